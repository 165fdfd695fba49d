/-! the landed program: Tape, feed -/
def bv (q : Int32) (j : Nat) : Int32 := (q >>> ((24 - 8 * nI j) &&& 31)).toInt8.toInt32
def cAp (x : cS) (u : Nat) (q : Int32) : Nat → cS
  | 0 => x
  | j + 1 => cI (cI (cAp x u q j) 2 0 (u + j) (bv q j)) 1 0 1 (nI (u + j + 1))
theorem cAp_u {x : cS} {u : Nat} (h : x.1 1 0 1 = nI u) (q : Int32) : ∀ j, (cAp x u q j).1 1 0 1 = nI (u + j)
  | 0 => h
  | j + 1 => by rw [cAp]; simp [cI_r]; rfl
theorem sh_step {j : Nat} (h : j < 4) : (24 : Int32) - 8 * nI j + (-8) = 24 - 8 * nI (j + 1) := by
  have : j = 0 ∨ j = 1 ∨ j = 2 ∨ j = 3 := by omega
  rcases this with h | h | h | h <;> rw [h] <;> decide
theorem sh_neg {j : Nat} (h : j ≤ 4) : (24 : Int32) - 8 * nI j < 0 ↔ j = 4 := by
  have : j = 0 ∨ j = 1 ∨ j = 2 ∨ j = 3 ∨ j = 4 := by omega
  rcases this with h | h | h | h | h <;> rw [h] <;> decide
set_option maxHeartbeats 4000000 in
set_option maxRecDepth 100000 in
/-- Tape.append -/
theorem ctX8_append (l : Launch) (D : va_G) (y : Nat → ClassId) (ad : Nat → Nat → Nat) (x : cS) (R : List (Nat × Nat)) (qs : Nat → Nat × Nat) (nC nT : Nat) (hR : cHas R nC nT) (q : Int32) (u : Nat) (hu : x.1 1 0 1 = nI u) (hu1 : u + 4 ≤ 1000) : cMv l yX8_append wsX8_append ({ frames := 0, cells := 0, slots := 0, locals := 0 }) D y ad x R qs [.ref (ad 1 0), .int q] (fun x' => x' = cAp x u q 4) := by
  refine cMv_of (cc := cX8_append) (maxL := 3) (ret := none) (by decide) rfl (Nat.le_of_ble_eq_true rfl) ?_
  intro p e s m below meth c A ls hat hAe hl
  obtain ⟨hx, hb, hr, hml, hts, hown, hlocks, hK, hP, hD, hA, hE⟩ := hat
  have hown : s.vm.findClass RX8 = some m.cls := hown
  have hin8 : ∀ w ∈ wsX80, w ∈ wsX8_append := fun _ h9 => List.mem_cons_of_mem _ (List.mem_append_right _ h9)
  have hl : lv_has ls 3 [(0, .ref (ad 1 0)), (1, .int q)] := hl
  have hS : va_S A s.heap s.heap [] := va_S.rf
  refine lv_bipush (v := 24) hx hb dX8_append_0 (by decide) ?_
  refine lv_istore_n (lv' := [(2, .int 24), (0, .ref (ad 1 0)), (1, .int q)]) hx hb dX8_append_2 rfl hl (by decide) rfl (fun ls hl => ?_)
  have lp_3 : ∀ (n_3 : Nat) (j : Nat) (w : cS) (x2 : Int32), (j ≤ 4) → (4 + 1 ≤ j + n_3) → (x2 = 24 - 8 * nI j) → (w = cAp x u q j) → ∀ (H : Heap) (locs : List Loc), va_P D vwCl (cW ad y w R) H → va_D A (cW ad y w R) → va_S A s.heap H locs → ∀ (ls : Array Slot), lv_has ls 3 [(0, .ref (ad 1 0)), (1, .int q), (2, .int x2)] → W p l e (headSpec wsX8_append ({ frames := 0, cells := 0, slots := 0, locals := 0 })).room s m ([.ref (ad 1 0), .int q] : List Value).toArray below meth c H locs 0 0 (MQ below (va_Qv (fun x' => x' = cAp x u q 4) (cEnd D y ad R s.heap.size) A) ([.ref (ad 1 0), .int q] : List Value).toArray s 0 0 A) (F0 m 3 ls []) := by
    intro n_3
    induction n_3 with
    | zero =>
      intro j w x2 hj hf ex2 hw
      exact absurd hf (by omega)
    | succ n_3 ih_3 =>
      intro j w x2 hj hf ex2 hw H locs hP hD hS ls hl
      have huw : w.1 1 0 1 = nI (u + j) := by rw [hw]; exact cAp_u hu q j
      refine lv_iload_n hx hb dX8_append_3 rfl (lv_at hl 2 rfl) ?_
      refine lv_if_lt (tgt := 46) hx hb dX8_append_4 (by decide) (fun c_4 => ?_) (fun c_4 => ?_)
      · have hj4 : j = 4 := (sh_neg hj).mp (by rw [← ex2]; exact c_4)
        exact c_retv hx hb hr hlocks hAe hK hP hD hS dX8_append_46 (by rw [hw, hj4])
      · have hj4 : j < 4 := by have : ¬ j = 4 := fun q9 => c_4 (by rw [ex2]; exact (sh_neg hj).mpr q9); omega
        refine lv_aload_n hx hb dX8_append_7 rfl (lv_at hl 0 rfl) ?_
        refine cg_X8_used (i := 0) hx hb hts hin8 hown hK hP ((hR 1 (0)).mpr Nat.zero_lt_one) (by decide +kernel) dX8_append_8 ?_
        refine lv_sipush (v := 1000) hx hb dX8_append_11 (by decide) ?_
        refine lv_icmp_ge (tgt := 40) hx hb dX8_append_14 (by decide) (fun c_14 => ?_) (fun c_14 => ?_)
        · exact absurd c_14 (by rw [huw]; exact nI_ge (b := 1000) (by omega) (by omega))
        · refine lv_aload_n hx hb dX8_append_17 rfl (lv_at hl 0 rfl) ?_
          refine cg_X8_bytes (i := 0) hx hb hts hin8 hown hK hP ((hR 1 (0)).mpr Nat.zero_lt_one) (by decide +kernel) dX8_append_18 ?_
          refine lv_aload_n hx hb dX8_append_21 rfl (lv_at hl 0 rfl) ?_
          refine cg_X8_used (i := 0) hx hb hts hin8 hown hK hP ((hR 1 (0)).mpr Nat.zero_lt_one) (by decide +kernel) dX8_append_22 ?_
          refine lv_iload_n hx hb dX8_append_25 rfl (lv_at hl 1 rfl) ?_
          refine lv_iload_n hx hb dX8_append_26 rfl (lv_at hl 2 rfl) ?_
          refine lv_ishr hx hb dX8_append_27 ?_
          refine lv_i2b hx hb dX8_append_28 rfl ?_
          refine cs_byte 2 (0) 1000 hx hb hK hP hD hS ((hR 2 (0)).mpr Nat.zero_lt_one) (fun _ _ _ => rfl) (by rw [huw]; exact vp_in_nI (by omega) (by omega)) dX8_append_29 (fun H locs hP hD hS => ?_)
          rw [pk_vb, huw, nI_clamp (by omega)] at hP hD
          refine lv_aload_n hx hb dX8_append_30 rfl (lv_at hl 0 rfl) ?_
          refine lv_dup hx hb dX8_append_31 rfl ?_
          refine cg_X8_used (i := 0) hx hb hts hin8 hown hK hP ((hR 1 (0)).mpr Nat.zero_lt_one) (by decide +kernel) dX8_append_32 ?_
          refine lv_iconst (v := 1) hx hb dX8_append_35 (by decide) ?_
          refine lv_iadd hx hb dX8_append_36 ?_
          refine cp_X8_used (i := 0) hx hb hts hin8 hown hK hP hD hS ((hR 1 (0)).mpr Nat.zero_lt_one) (by decide +kernel) dX8_append_37 (fun H locs hP hD hS => ?_)
          obtain ⟨x2_1, ex2_1⟩ : ∃ z : Int32, z = x2 + (-8) := ⟨_, rfl⟩
          refine lv_iinc (v := x2_1) (lv' := [(2, .int x2_1), (0, .ref (ad 1 0)), (1, .int q)]) hx hb dX8_append_40 hl (k := 2) rfl (by rw [ex2_1]; rfl) (by decide) rfl (fun ls hl => ?_)
          refine lv_goto (tgt := 3) hx hb dX8_append_43 (by decide) ?_
          exact ih_3 (j + 1) _ _ (by omega) (by omega) (by rw [ex2_1, ex2]; exact sh_step hj4) (by rw [hw, cAp, bv, ← ex2]; simp [cI_r, cAp_u hu, nI_1]) _ _ hP hD hS _ (lv_sub hl [1, 2, 0] rfl)
  exact lp_3 5 0 _ _ (Nat.zero_le _) (by omega) rfl rfl _ _ hP hD hS _ (lv_sub hl [1, 2, 0] rfl)
def cWi (x : cS) (u : Nat) (lo hi : Int32) (p : Nat) : Bool := decide (p < u) && (decide (lo ≤ x.1 2 0 p) && decide (x.1 2 0 p ≤ hi))
def cBl (x : cS) (u p : Nat) : Bool := decide (p < u) && (decide (x.1 2 0 p = 32) || decide (x.1 2 0 p = 10))
set_option maxHeartbeats 4000000 in
set_option maxRecDepth 100000 in
/-- Tape.isWithin -/
theorem ctX8_isWithin (l : Launch) (D : va_G) (y : Nat → ClassId) (ad : Nat → Nat → Nat) (x : cS) (R : List (Nat × Nat)) (qs : Nat → Nat × Nat) (nC nT : Nat) (hR : cHas R nC nT) (pl lo hi : Int32) (u pp : Nat) (hu : x.1 1 0 1 = nI u) (hu1 : u ≤ 1000) (hp : pl = nI pp) (hp1 : pp < 2 ^ 31) : cMi l yX8_isWithin wsX8_isWithin ({ frames := 0, cells := 0, slots := 0, locals := 0 }) D y ad x R qs [.ref (ad 1 0), .int pl, .int lo, .int hi] (fun r x' => r = zI (cWi x u lo hi pp) ∧ x' = x) := by
  refine cMi_of (cc := cX8_isWithin) (maxL := 4) (ret := (some .boolean)) (by decide) rfl (Nat.le_of_ble_eq_true rfl) ?_
  intro p e s m below meth c A ls hat hAe hl
  obtain ⟨hx, hb, hr, hml, hts, hown, hlocks, hK, hP, hD, hA, hE⟩ := hat
  have hown : s.vm.findClass RX8 = some m.cls := hown
  have hin8 : ∀ w ∈ wsX80, w ∈ wsX8_isWithin := fun _ h9 => List.mem_cons_of_mem _ (List.mem_append_right _ h9)
  have hl : lv_has ls 4 [(0, .ref (ad 1 0)), (1, .int pl), (2, .int lo), (3, .int hi)] := hl
  have hS : va_S A s.heap s.heap [] := va_S.rf
  have hc : pl.toNatClampNeg = pp := by rw [hp]; exact nI_clamp hp1
  refine lv_iload_n hx hb dX8_isWithin_0 rfl (lv_at hl 1 rfl) ?_
  refine lv_if_lt (tgt := 36) hx hb dX8_isWithin_1 (by decide) (fun c_1 => ?_) (fun c_1 => ?_)
  · exact absurd c_1 (by rw [hp]; exact nI_pos hp1)
  · refine lv_iload_n hx hb dX8_isWithin_4 rfl (lv_at hl 1 rfl) ?_
    refine lv_aload_n hx hb dX8_isWithin_5 rfl (lv_at hl 0 rfl) ?_
    refine cg_X8_used (i := 0) hx hb hts hin8 hown hK hP ((hR 1 (0)).mpr Nat.zero_lt_one) (by decide +kernel) dX8_isWithin_6 ?_
    refine lv_icmp_ge (tgt := 36) hx hb dX8_isWithin_9 (by decide) (fun c_9 => ?_) (fun c_9 => ?_)
    · have h9 : ¬ pp < u := by rw [hu, hp] at c_9; have := (nI_leI (by omega) (by omega)).mp c_9; omega
      refine lv_iconst (v := 0) hx hb dX8_isWithin_36 (by decide) ?_
      exact c_reti hx hb hr hlocks hAe hK hP hD hS (by first | rfl | decide) dX8_isWithin_37 (⟨by simp [zI, cWi, h9], rfl⟩)
    · have h9 : pp < u := by rw [hu, hp] at c_9; exact Nat.not_le.mp (fun q9 => c_9 (nI_le q9 hp1))
      refine lv_aload_n hx hb dX8_isWithin_12 rfl (lv_at hl 0 rfl) ?_
      refine cg_X8_bytes (i := 0) hx hb hts hin8 hown hK hP ((hR 1 (0)).mpr Nat.zero_lt_one) (by decide +kernel) dX8_isWithin_13 ?_
      refine lv_iload_n hx hb dX8_isWithin_16 rfl (lv_at hl 1 rfl) ?_
      refine cl_byte 2 (0) 1000 hx hb hK hP ((hR 2 (0)).mpr Nat.zero_lt_one) (fun _ _ _ => rfl) (by rw [hp]; exact vp_in_nI (by omega) (by omega)) dX8_isWithin_17 ?_
      refine lv_iload_n hx hb dX8_isWithin_18 rfl (lv_at hl 2 rfl) ?_
      refine lv_icmp_lt (tgt := 36) hx hb dX8_isWithin_19 (by decide) (fun c_19 => ?_) (fun c_19 => ?_)
      · rw [hc] at c_19
        refine lv_iconst (v := 0) hx hb dX8_isWithin_36 (by decide) ?_
        exact c_reti hx hb hr hlocks hAe hK hP hD hS (by first | rfl | decide) dX8_isWithin_37 (⟨by simp [zI, cWi, h9, c_19, Int32.not_le.mpr c_19], rfl⟩)
      · rw [hc] at c_19
        refine lv_aload_n hx hb dX8_isWithin_22 rfl (lv_at hl 0 rfl) ?_
        refine cg_X8_bytes (i := 0) hx hb hts hin8 hown hK hP ((hR 1 (0)).mpr Nat.zero_lt_one) (by decide +kernel) dX8_isWithin_23 ?_
        refine lv_iload_n hx hb dX8_isWithin_26 rfl (lv_at hl 1 rfl) ?_
        refine cl_byte 2 (0) 1000 hx hb hK hP ((hR 2 (0)).mpr Nat.zero_lt_one) (fun _ _ _ => rfl) (by rw [hp]; exact vp_in_nI (by omega) (by omega)) dX8_isWithin_27 ?_
        refine lv_iload_n hx hb dX8_isWithin_28 rfl (lv_at hl 3 rfl) ?_
        refine lv_icmp_gt (tgt := 36) hx hb dX8_isWithin_29 (by decide) (fun c_29 => ?_) (fun c_29 => ?_)
        · rw [hc] at c_29
          refine lv_iconst (v := 0) hx hb dX8_isWithin_36 (by decide) ?_
          exact c_reti hx hb hr hlocks hAe hK hP hD hS (by first | rfl | decide) dX8_isWithin_37 (⟨by simp [zI, cWi, h9, c_19, Int32.not_lt.mp c_19, c_29, Int32.not_le.mpr c_29], rfl⟩)
        · rw [hc] at c_29
          refine lv_iconst (v := 1) hx hb dX8_isWithin_32 (by decide) ?_
          refine lv_goto (tgt := 37) hx hb dX8_isWithin_33 (by decide) ?_
          exact c_reti hx hb hr hlocks hAe hK hP hD hS (by first | rfl | decide) dX8_isWithin_37 (⟨by simp [zI, cWi, h9, c_19, Int32.not_lt.mp c_19, c_29, Int32.not_lt.mp c_29], rfl⟩)
def eoR (x : cS) (u : Nat) (lo hi : Int32) (p : Nat) : Nat := fstn (fun i => !cWi x u lo hi i) 1001 p
def eoB (x : cS) (u p : Nat) : Nat := fstn (fun i => !cBl x u i) 1001 p
set_option maxHeartbeats 4000000 in
set_option maxRecDepth 100000 in
/-- Tape.endOfRun -/
theorem ctX8_endOfRun (l : Launch) (D : va_G) (y : Nat → ClassId) (ad : Nat → Nat → Nat) (x : cS) (R : List (Nat × Nat)) (qs : Nat → Nat × Nat) (nC nT : Nat) (hR : cHas R nC nT) (pl lo hi : Int32) (u p0 : Nat) (hu : x.1 1 0 1 = nI u) (hu1 : u ≤ 1000) (hp : pl = nI p0) (hp1 : p0 ≤ 1000) : cMi l yX8_endOfRun wsX8_endOfRun ({ frames := 0, cells := 0, slots := 0, locals := 0 }) D y ad x R qs [.ref (ad 1 0), .int pl, .int lo, .int hi] (fun r x' => r = nI (eoR x u lo hi p0) ∧ x' = x) := by
  refine cMi_of (cc := cX8_endOfRun) (maxL := 5) (ret := (some .int)) (by decide) rfl (Nat.le_of_ble_eq_true rfl) ?_
  intro p e s m below meth c A ls hat hAe hl
  obtain ⟨hx, hb, hr, hml, hts, hown, hlocks, hK, hP, hD, hA, hE⟩ := hat
  have hown : s.vm.findClass RX8 = some m.cls := hown
  have hin8 : ∀ w ∈ wsX80, w ∈ wsX8_endOfRun := fun _ h9 => List.mem_cons_of_mem _ (List.mem_append_right _ h9)
  have hl : lv_has ls 5 [(0, .ref (ad 1 0)), (1, .int pl), (2, .int lo), (3, .int hi)] := hl
  have hS : va_S A s.heap s.heap [] := va_S.rf
  refine lv_iload_n hx hb dX8_endOfRun_0 rfl (lv_at hl 1 rfl) ?_
  refine lv_istore (lv' := [(4, .int pl), (0, .ref (ad 1 0)), (1, .int pl), (2, .int lo), (3, .int hi)]) hx hb dX8_endOfRun_1 hl (by decide) rfl (fun ls hl => ?_)
  have lp_3 : ∀ (n_3 : Nat) (k : Nat) (x4 : Int32), (p0 ≤ k) → (k ≤ 1000) → (1002 ≤ k + n_3) → (x4 = nI k) → (∀ i, p0 ≤ i → i < k → (!cWi x u lo hi i) = false) → ∀ (H : Heap) (locs : List Loc), va_P D vwCl (cW ad y x R) H → va_D A (cW ad y x R) → va_S A s.heap H locs → ∀ (ls : Array Slot), lv_has ls 5 [(0, .ref (ad 1 0)), (2, .int lo), (3, .int hi), (4, .int x4)] → W p l e (headSpec wsX8_endOfRun ({ frames := 0, cells := 0, slots := 0, locals := 0 })).room s m ([.ref (ad 1 0), .int pl, .int lo, .int hi] : List Value).toArray below meth c H locs 0 0 (MQ below (va_Qi (fun r x' => r = nI (eoR x u lo hi p0) ∧ x' = x) (cEnd D y ad R s.heap.size) A) ([.ref (ad 1 0), .int pl, .int lo, .int hi] : List Value).toArray s 0 0 A) (F0 m 3 ls []) := by
    intro n_3
    induction n_3 with
    | zero =>
      intro k x4 hk0 hk1 hf ex hno
      exact absurd hf (by omega)
    | succ n_3 ih_3 =>
      intro k x4 hk0 hk1 hf ex hno H locs hP hD hS ls hl
      have hc : x4.toNatClampNeg = k := by rw [ex]; exact nI_clamp (by omega)
      refine lv_iload hx hb dX8_endOfRun_3 (lv_at hl 3 rfl) ?_
      refine lv_if_lt (tgt := 45) hx hb dX8_endOfRun_5 (by decide) (fun c_5 => ?_) (fun c_5 => ?_)
      · exact absurd c_5 (by rw [ex]; exact nI_pos (by omega))
      · refine lv_iload hx hb dX8_endOfRun_8 (lv_at hl 3 rfl) ?_
        refine lv_aload_n hx hb dX8_endOfRun_10 rfl (lv_at hl 0 rfl) ?_
        refine cg_X8_used (i := 0) hx hb hts hin8 hown hK hP ((hR 1 (0)).mpr Nat.zero_lt_one) (by decide +kernel) dX8_endOfRun_11 ?_
        refine lv_icmp_ge (tgt := 45) hx hb dX8_endOfRun_14 (by decide) (fun c_14 => ?_) (fun c_14 => ?_)
        · have hk : ¬ k < u := by rw [hu, ex] at c_14; have := (nI_leI (by omega) (by omega)).mp c_14; omega
          refine lv_iload hx hb dX8_endOfRun_45 (lv_at hl 3 rfl) ?_
          exact c_reti hx hb hr hlocks hAe hK hP hD hS rfl dX8_endOfRun_47 (⟨by rw [ex, eoR, fstn_hit 1001 p0 k hno hk0 (by omega) (by simp [cWi, hk])], rfl⟩)
        · have hk : k < u := by rw [hu, ex] at c_14; exact Nat.not_le.mp (fun q9 => c_14 (nI_le q9 (by omega)))
          refine lv_aload_n hx hb dX8_endOfRun_17 rfl (lv_at hl 0 rfl) ?_
          refine cg_X8_bytes (i := 0) hx hb hts hin8 hown hK hP ((hR 1 (0)).mpr Nat.zero_lt_one) (by decide +kernel) dX8_endOfRun_18 ?_
          refine lv_iload hx hb dX8_endOfRun_21 (lv_at hl 3 rfl) ?_
          refine cl_byte 2 (0) 1000 hx hb hK hP ((hR 2 (0)).mpr Nat.zero_lt_one) (fun _ _ _ => rfl) (by rw [ex]; exact vp_in_nI (by omega) (by omega)) dX8_endOfRun_23 ?_
          refine lv_iload_n hx hb dX8_endOfRun_24 rfl (lv_at hl 1 rfl) ?_
          refine lv_icmp_lt (tgt := 45) hx hb dX8_endOfRun_25 (by decide) (fun c_25 => ?_) (fun c_25 => ?_)
          · rw [hc] at c_25
            refine lv_iload hx hb dX8_endOfRun_45 (lv_at hl 3 rfl) ?_
            exact c_reti hx hb hr hlocks hAe hK hP hD hS rfl dX8_endOfRun_47 (⟨by rw [ex, eoR, fstn_hit 1001 p0 k hno hk0 (by omega) (by simp [cWi, hk, c_25, Int32.not_le.mpr c_25])], rfl⟩)
          · rw [hc] at c_25
            refine lv_aload_n hx hb dX8_endOfRun_28 rfl (lv_at hl 0 rfl) ?_
            refine cg_X8_bytes (i := 0) hx hb hts hin8 hown hK hP ((hR 1 (0)).mpr Nat.zero_lt_one) (by decide +kernel) dX8_endOfRun_29 ?_
            refine lv_iload hx hb dX8_endOfRun_32 (lv_at hl 3 rfl) ?_
            refine cl_byte 2 (0) 1000 hx hb hK hP ((hR 2 (0)).mpr Nat.zero_lt_one) (fun _ _ _ => rfl) (by rw [ex]; exact vp_in_nI (by omega) (by omega)) dX8_endOfRun_34 ?_
            refine lv_iload_n hx hb dX8_endOfRun_35 rfl (lv_at hl 2 rfl) ?_
            refine lv_icmp_gt (tgt := 45) hx hb dX8_endOfRun_36 (by decide) (fun c_36 => ?_) (fun c_36 => ?_)
            · rw [hc] at c_36
              refine lv_iload hx hb dX8_endOfRun_45 (lv_at hl 3 rfl) ?_
              exact c_reti hx hb hr hlocks hAe hK hP hD hS rfl dX8_endOfRun_47 (⟨by rw [ex, eoR, fstn_hit 1001 p0 k hno hk0 (by omega) (by simp [cWi, hk, c_25, Int32.not_lt.mp c_25, c_36, Int32.not_le.mpr c_36])], rfl⟩)
            · rw [hc] at c_36
              obtain ⟨x4_1, ex4_1⟩ : ∃ z : Int32, z = x4 + 1 := ⟨_, rfl⟩
              refine lv_iinc (v := x4_1) (lv' := [(4, .int x4_1), (0, .ref (ad 1 0)), (2, .int lo), (3, .int hi)]) hx hb dX8_endOfRun_39 hl (k := 3) rfl (by rw [ex4_1]; rfl) (by decide) rfl (fun ls hl => ?_)
              refine lv_goto (tgt := 3) hx hb dX8_endOfRun_42 (by decide) ?_
              exact ih_3 (k + 1) _ (by omega) (by omega) (by omega) (by rw [ex4_1, ex]; exact nI_1 _) (fun i h1 h2 => by by_cases h3 : i = k; rw [h3]; simp [cWi, hk, c_25, Int32.not_lt.mp c_25, c_36, Int32.not_lt.mp c_36]; exact hno i h1 (by omega)) _ _ hP hD hS _ (lv_sub hl [1, 2, 3, 0] rfl)
  exact lp_3 1002 p0 _ (Nat.le_refl _) hp1 (by omega) hp (fun i h1 h2 => absurd h1 (by omega)) _ _ hP hD hS _ (lv_sub hl [1, 3, 4, 0] rfl)
set_option maxHeartbeats 4000000 in
set_option maxRecDepth 100000 in
/-- Tape.endOfBlanks -/
theorem ctX8_endOfBlanks (l : Launch) (D : va_G) (y : Nat → ClassId) (ad : Nat → Nat → Nat) (x : cS) (R : List (Nat × Nat)) (qs : Nat → Nat × Nat) (nC nT : Nat) (hR : cHas R nC nT) (pl : Int32) (u p0 : Nat) (hu : x.1 1 0 1 = nI u) (hu1 : u ≤ 1000) (hp : pl = nI p0) (hp1 : p0 ≤ 1000) : cMi l yX8_endOfBlanks wsX8_endOfBlanks ({ frames := 0, cells := 0, slots := 0, locals := 0 }) D y ad x R qs [.ref (ad 1 0), .int pl] (fun r x' => r = nI (eoB x u p0) ∧ x' = x) := by
  refine cMi_of (cc := cX8_endOfBlanks) (maxL := 3) (ret := (some .int)) (by decide) rfl (Nat.le_of_ble_eq_true rfl) ?_
  intro p e s m below meth c A ls hat hAe hl
  obtain ⟨hx, hb, hr, hml, hts, hown, hlocks, hK, hP, hD, hA, hE⟩ := hat
  have hown : s.vm.findClass RX8 = some m.cls := hown
  have hin8 : ∀ w ∈ wsX80, w ∈ wsX8_endOfBlanks := fun _ h9 => List.mem_cons_of_mem _ (List.mem_append_right _ h9)
  have hl : lv_has ls 3 [(0, .ref (ad 1 0)), (1, .int pl)] := hl
  have hS : va_S A s.heap s.heap [] := va_S.rf
  refine lv_iload_n hx hb dX8_endOfBlanks_0 rfl (lv_at hl 1 rfl) ?_
  refine lv_istore_n (lv' := [(2, .int pl), (0, .ref (ad 1 0)), (1, .int pl)]) hx hb dX8_endOfBlanks_1 rfl hl (by decide) rfl (fun ls hl => ?_)
  have lp_2 : ∀ (n_2 : Nat) (k : Nat) (x4 : Int32), (p0 ≤ k) → (k ≤ 1000) → (1002 ≤ k + n_2) → (x4 = nI k) → (∀ i, p0 ≤ i → i < k → (!cBl x u i) = false) → ∀ (H : Heap) (locs : List Loc), va_P D vwCl (cW ad y x R) H → va_D A (cW ad y x R) → va_S A s.heap H locs → ∀ (ls : Array Slot), lv_has ls 3 [(0, .ref (ad 1 0)), (2, .int x4)] → W p l e (headSpec wsX8_endOfBlanks ({ frames := 0, cells := 0, slots := 0, locals := 0 })).room s m ([.ref (ad 1 0), .int pl] : List Value).toArray below meth c H locs 0 0 (MQ below (va_Qi (fun r x' => r = nI (eoB x u p0) ∧ x' = x) (cEnd D y ad R s.heap.size) A) ([.ref (ad 1 0), .int pl] : List Value).toArray s 0 0 A) (F0 m 2 ls []) := by
    intro n_2
    induction n_2 with
    | zero =>
      intro k x4 hk0 hk1 hf ex hno
      exact absurd hf (by omega)
    | succ n_2 ih_2 =>
      intro k x4 hk0 hk1 hf ex hno H locs hP hD hS ls hl
      have hc : x4.toNatClampNeg = k := by rw [ex]; exact nI_clamp (by omega)
      refine lv_iload_n hx hb dX8_endOfBlanks_2 rfl (lv_at hl 1 rfl) ?_
      refine lv_if_lt (tgt := 42) hx hb dX8_endOfBlanks_3 (by decide) (fun c_3 => ?_) (fun c_3 => ?_)
      · exact absurd c_3 (by rw [ex]; exact nI_pos (by omega))
      · refine lv_iload_n hx hb dX8_endOfBlanks_6 rfl (lv_at hl 1 rfl) ?_
        refine lv_aload_n hx hb dX8_endOfBlanks_7 rfl (lv_at hl 0 rfl) ?_
        refine cg_X8_used (i := 0) hx hb hts hin8 hown hK hP ((hR 1 (0)).mpr Nat.zero_lt_one) (by decide +kernel) dX8_endOfBlanks_8 ?_
        refine lv_icmp_ge (tgt := 42) hx hb dX8_endOfBlanks_11 (by decide) (fun c_11 => ?_) (fun c_11 => ?_)
        · have hk : ¬ k < u := by rw [hu, ex] at c_11; have := (nI_leI (by omega) (by omega)).mp c_11; omega
          refine lv_iload_n hx hb dX8_endOfBlanks_42 rfl (lv_at hl 1 rfl) ?_
          exact c_reti hx hb hr hlocks hAe hK hP hD hS rfl dX8_endOfBlanks_43 (⟨by rw [ex, eoB, fstn_hit 1001 p0 k hno hk0 (by omega) (by simp [cBl, hk])], rfl⟩)
        · have hk : k < u := by rw [hu, ex] at c_11; exact Nat.not_le.mp (fun q9 => c_11 (nI_le q9 (by omega)))
          refine lv_aload_n hx hb dX8_endOfBlanks_14 rfl (lv_at hl 0 rfl) ?_
          refine cg_X8_bytes (i := 0) hx hb hts hin8 hown hK hP ((hR 1 (0)).mpr Nat.zero_lt_one) (by decide +kernel) dX8_endOfBlanks_15 ?_
          refine lv_iload_n hx hb dX8_endOfBlanks_18 rfl (lv_at hl 1 rfl) ?_
          refine cl_byte 2 (0) 1000 hx hb hK hP ((hR 2 (0)).mpr Nat.zero_lt_one) (fun _ _ _ => rfl) (by rw [ex]; exact vp_in_nI (by omega) (by omega)) dX8_endOfBlanks_19 ?_
          refine lv_bipush (v := 32) hx hb dX8_endOfBlanks_20 (by decide) ?_
          refine lv_icmp_eq (tgt := 36) hx hb dX8_endOfBlanks_22 (by decide) (fun c_22 => ?_) (fun c_22 => ?_)
          · rw [hc] at c_22
            obtain ⟨x2_1, ex2_1⟩ : ∃ z : Int32, z = x4 + 1 := ⟨_, rfl⟩
            refine lv_iinc (v := x2_1) (lv' := [(2, .int x2_1), (0, .ref (ad 1 0))]) hx hb dX8_endOfBlanks_36 hl (k := 1) rfl (by rw [ex2_1]; rfl) (by decide) rfl (fun ls hl => ?_)
            refine lv_goto (tgt := 2) hx hb dX8_endOfBlanks_39 (by decide) ?_
            exact ih_2 (k + 1) _ (by omega) (by omega) (by omega) (by rw [ex2_1, ex]; exact nI_1 _) (fun i h1 h2 => by by_cases h3 : i = k; rw [h3]; simp [cBl, hk, c_22]; exact hno i h1 (by omega)) _ _ hP hD hS _ (lv_sub hl [1, 0] rfl)
          · rw [hc] at c_22
            refine lv_aload_n hx hb dX8_endOfBlanks_25 rfl (lv_at hl 0 rfl) ?_
            refine cg_X8_bytes (i := 0) hx hb hts hin8 hown hK hP ((hR 1 (0)).mpr Nat.zero_lt_one) (by decide +kernel) dX8_endOfBlanks_26 ?_
            refine lv_iload_n hx hb dX8_endOfBlanks_29 rfl (lv_at hl 1 rfl) ?_
            refine cl_byte 2 (0) 1000 hx hb hK hP ((hR 2 (0)).mpr Nat.zero_lt_one) (fun _ _ _ => rfl) (by rw [ex]; exact vp_in_nI (by omega) (by omega)) dX8_endOfBlanks_30 ?_
            refine lv_bipush (v := 10) hx hb dX8_endOfBlanks_31 (by decide) ?_
            refine lv_icmp_ne (tgt := 42) hx hb dX8_endOfBlanks_33 (by decide) (fun c_33 => ?_) (fun c_33 => ?_)
            · rw [hc] at c_33
              refine lv_iload_n hx hb dX8_endOfBlanks_42 rfl (lv_at hl 1 rfl) ?_
              exact c_reti hx hb hr hlocks hAe hK hP hD hS rfl dX8_endOfBlanks_43 (⟨by rw [ex, eoB, fstn_hit 1001 p0 k hno hk0 (by omega) (by simp [cBl, hk, c_22, c_33])], rfl⟩)
            · rw [hc] at c_33
              obtain ⟨x2_2, ex2_2⟩ : ∃ z : Int32, z = x4 + 1 := ⟨_, rfl⟩
              refine lv_iinc (v := x2_2) (lv' := [(2, .int x2_2), (0, .ref (ad 1 0))]) hx hb dX8_endOfBlanks_36 hl (k := 1) rfl (by rw [ex2_2]; rfl) (by decide) rfl (fun ls hl => ?_)
              refine lv_goto (tgt := 2) hx hb dX8_endOfBlanks_39 (by decide) ?_
              exact ih_2 (k + 1) _ (by omega) (by omega) (by omega) (by rw [ex2_2, ex]; exact nI_1 _) (fun i h1 h2 => by by_cases h3 : i = k; rw [h3]; simp [cBl, hk, c_22, c_33]; exact hno i h1 (by omega)) _ _ hP hD hS _ (lv_sub hl [1, 0] rfl)
  exact lp_2 1002 p0 _ (Nat.le_refl _) hp1 (by omega) hp (fun i h1 h2 => absurd h1 (by omega)) _ _ hP hD hS _ (lv_sub hl [1, 0] rfl)
def cFd (x : cS) (u : Nat) (xs : Nat → Int32) : Nat → cS
  | 0 => x
  | k + 1 => cAp (cFd x u xs k) (u + 4 * k) (xs k) 4
theorem cFd_u {x : cS} {u : Nat} (h : x.1 1 0 1 = nI u) (xs : Nat → Int32) : ∀ k, (cFd x u xs k).1 1 0 1 = nI (u + 4 * k)
  | 0 => h
  | k + 1 => by rw [cFd, cAp_u (cFd_u h xs k)]; rfl
def csFeed (x : cS) (u : Nat) (xs : Nat → Int32) : Int32 × cS := if u + 20 ≤ 1000 then (nI (u + 20), cFd x u xs 5) else (-3, x)
set_option maxHeartbeats 4000000 in
set_option maxRecDepth 100000 in
/-- feed -/
theorem ctX9_feed (l : Launch) (D : va_G) (y : Nat → ClassId) (ad : Nat → Nat → Nat) (x : cS) (R : List (Nat × Nat)) (qs : Nat → Nat × Nat) (nC nT : Nat) (hR : cHas R nC nT) (x1 x2 x3 x4 x5 : Int32) (u : Nat) (hu : x.1 1 0 1 = nI u) (hu1 : u ≤ 1000) : cMi l yX9_feed wsX9_feed ({ frames := 1, cells := 0, slots := 0, locals := 22 }) D y ad x R qs [.ref (ad 0 0), .int x1, .int x2, .int x3, .int x4, .int x5] (fun r x' => (r, x') = csFeed x u (fdX x1 x2 x3 x4 x5)) := by
  refine cMi_of (cc := cX9_feed) (maxL := 6) (ret := (some .int)) (by decide) rfl (Nat.le_of_ble_eq_true rfl) ?_
  intro p e s m below meth c A ls hat hAe hl
  obtain ⟨hx, hb, hr, hml, hts, hown, hlocks, hK, hP, hD, hA, hE⟩ := hat
  have hown : s.vm.findClass RX9 = some m.cls := hown
  have hin9 : ∀ w ∈ wsX90, w ∈ wsX9_feed := fun _ h9 => List.mem_cons_of_mem _ (List.mem_append_left _ (List.mem_append_right _ h9))
  have hin8 : ∀ w ∈ wsX80, w ∈ wsX9_feed := fun _ h9 => List.mem_cons_of_mem _ (List.mem_append_right _ h9)
  have hl : lv_has ls 6 [(0, .ref (ad 0 0)), (1, .int x1), (2, .int x2), (3, .int x3), (4, .int x4), (5, .int x5)] := hl
  have hS : va_S A s.heap s.heap [] := va_S.rf
  have hP : va_P D vwCl (cW ad y (cFd x u (fdX x1 x2 x3 x4 x5) 0) R) s.heap := hP
  have hD : va_D A (cW ad y (cFd x u (fdX x1 x2 x3 x4 x5) 0) R) := hD
  have hu : (cFd x u (fdX x1 x2 x3 x4 x5) 0).1 1 0 1 = nI u := hu
  refine lv_aload_n hx hb dX9_feed_0 rfl (lv_at hl 0 rfl) ?_
  refine cg_X9_tape (i := 0) hx hb hts hin9 hown hK hP ((hR 0 (0)).mpr Nat.zero_lt_one) (by decide +kernel) dX9_feed_1 ?_
  refine cg_X8_used (i := 0) hx hb hts hin8 hown hK hP ((hR 1 (0)).mpr Nat.zero_lt_one) (by decide +kernel) dX9_feed_4 ?_
  refine lv_bipush (v := 20) hx hb dX9_feed_7 (by decide) ?_
  refine lv_iadd hx hb dX9_feed_9 ?_
  refine lv_sipush (v := 1000) hx hb dX9_feed_10 (by decide) ?_
  refine lv_icmp_le (tgt := 19) hx hb dX9_feed_13 (by decide) (fun c_13 => ?_) (fun c_13 => ?_)
  · have h20 : u + 20 ≤ 1000 := by rw [hu, show (20 : Int32) = nI 20 from rfl, nI_add] at c_13; exact (nI_leI (b := 1000) (by omega) (by omega)).mp c_13
    refine lv_aload_n hx hb dX9_feed_19 rfl (lv_at hl 0 rfl) ?_
    refine cg_X9_tape (i := 0) hx hb hts hin9 hown hK hP ((hR 0 (0)).mpr Nat.zero_lt_one) (by decide +kernel) dX9_feed_20 ?_
    refine lv_iload_n hx hb dX9_feed_23 rfl (lv_at hl 1 rfl) ?_
    refine c_callv (ci := 8) (q := (RX8, TX8, 2)) (κ := 1) (i := 0) (As := [.int x1]) (rest := []) ⟨hx, hb, hml, hown, hts⟩ (ctX8_append l D y ad (cFd x u (fdX x1 x2 x3 x4 x5) 0) R qs nC nT hR x1 (u + 4 * 0) (cFd_u hu _ 0) (by omega)) (cwV 1 hts gX9_feed_X8_append rfl rfl rfl (by decide +kernel) ⟨Nat.le_of_ble_eq_true rfl, Nat.le_of_ble_eq_true rfl⟩) ((hR 1 (0)).mpr Nat.zero_lt_one) (fun _ _ _ => ⟨_, rfl⟩) rfl hE hK hP hD hS hA rfl hl.1 rfl (Nat.le_of_ble_eq_true rfl) dX9_feed_24 ⟨Nat.zero_le _, Nat.zero_le _⟩ (fun z0 H locs hz0 hP hD hS => ?_)
    have hP : va_P D vwCl (cW ad y (cFd x u (fdX x1 x2 x3 x4 x5) 1) R) H := by rw [hz0] at hP; exact hP
    have hD : va_D A (cW ad y (cFd x u (fdX x1 x2 x3 x4 x5) 1) R) := by rw [hz0] at hD; exact hD
    refine lv_aload_n hx hb dX9_feed_27 rfl (lv_at hl 0 rfl) ?_
    refine cg_X9_tape (i := 0) hx hb hts hin9 hown hK hP ((hR 0 (0)).mpr Nat.zero_lt_one) (by decide +kernel) dX9_feed_28 ?_
    refine lv_iload_n hx hb dX9_feed_31 rfl (lv_at hl 2 rfl) ?_
    refine c_callv (ci := 8) (q := (RX8, TX8, 2)) (κ := 1) (i := 0) (As := [.int x2]) (rest := []) ⟨hx, hb, hml, hown, hts⟩ (ctX8_append l D y ad (cFd x u (fdX x1 x2 x3 x4 x5) 1) R qs nC nT hR x2 (u + 4 * 1) (cFd_u hu _ 1) (by omega)) (cwV 1 hts gX9_feed_X8_append rfl rfl rfl (by decide +kernel) ⟨Nat.le_of_ble_eq_true rfl, Nat.le_of_ble_eq_true rfl⟩) ((hR 1 (0)).mpr Nat.zero_lt_one) (fun _ _ _ => ⟨_, rfl⟩) rfl hE hK hP hD hS hA rfl hl.1 rfl (Nat.le_of_ble_eq_true rfl) dX9_feed_32 ⟨Nat.zero_le _, Nat.zero_le _⟩ (fun z1 H locs hz1 hP hD hS => ?_)
    have hP : va_P D vwCl (cW ad y (cFd x u (fdX x1 x2 x3 x4 x5) 2) R) H := by rw [hz1] at hP; exact hP
    have hD : va_D A (cW ad y (cFd x u (fdX x1 x2 x3 x4 x5) 2) R) := by rw [hz1] at hD; exact hD
    refine lv_aload_n hx hb dX9_feed_35 rfl (lv_at hl 0 rfl) ?_
    refine cg_X9_tape (i := 0) hx hb hts hin9 hown hK hP ((hR 0 (0)).mpr Nat.zero_lt_one) (by decide +kernel) dX9_feed_36 ?_
    refine lv_iload_n hx hb dX9_feed_39 rfl (lv_at hl 3 rfl) ?_
    refine c_callv (ci := 8) (q := (RX8, TX8, 2)) (κ := 1) (i := 0) (As := [.int x3]) (rest := []) ⟨hx, hb, hml, hown, hts⟩ (ctX8_append l D y ad (cFd x u (fdX x1 x2 x3 x4 x5) 2) R qs nC nT hR x3 (u + 4 * 2) (cFd_u hu _ 2) (by omega)) (cwV 1 hts gX9_feed_X8_append rfl rfl rfl (by decide +kernel) ⟨Nat.le_of_ble_eq_true rfl, Nat.le_of_ble_eq_true rfl⟩) ((hR 1 (0)).mpr Nat.zero_lt_one) (fun _ _ _ => ⟨_, rfl⟩) rfl hE hK hP hD hS hA rfl hl.1 rfl (Nat.le_of_ble_eq_true rfl) dX9_feed_40 ⟨Nat.zero_le _, Nat.zero_le _⟩ (fun z2 H locs hz2 hP hD hS => ?_)
    have hP : va_P D vwCl (cW ad y (cFd x u (fdX x1 x2 x3 x4 x5) 3) R) H := by rw [hz2] at hP; exact hP
    have hD : va_D A (cW ad y (cFd x u (fdX x1 x2 x3 x4 x5) 3) R) := by rw [hz2] at hD; exact hD
    refine lv_aload_n hx hb dX9_feed_43 rfl (lv_at hl 0 rfl) ?_
    refine cg_X9_tape (i := 0) hx hb hts hin9 hown hK hP ((hR 0 (0)).mpr Nat.zero_lt_one) (by decide +kernel) dX9_feed_44 ?_
    refine lv_iload hx hb dX9_feed_47 (lv_at hl 4 rfl) ?_
    refine c_callv (ci := 8) (q := (RX8, TX8, 2)) (κ := 1) (i := 0) (As := [.int x4]) (rest := []) ⟨hx, hb, hml, hown, hts⟩ (ctX8_append l D y ad (cFd x u (fdX x1 x2 x3 x4 x5) 3) R qs nC nT hR x4 (u + 4 * 3) (cFd_u hu _ 3) (by omega)) (cwV 1 hts gX9_feed_X8_append rfl rfl rfl (by decide +kernel) ⟨Nat.le_of_ble_eq_true rfl, Nat.le_of_ble_eq_true rfl⟩) ((hR 1 (0)).mpr Nat.zero_lt_one) (fun _ _ _ => ⟨_, rfl⟩) rfl hE hK hP hD hS hA rfl hl.1 rfl (Nat.le_of_ble_eq_true rfl) dX9_feed_49 ⟨Nat.zero_le _, Nat.zero_le _⟩ (fun z3 H locs hz3 hP hD hS => ?_)
    have hP : va_P D vwCl (cW ad y (cFd x u (fdX x1 x2 x3 x4 x5) 4) R) H := by rw [hz3] at hP; exact hP
    have hD : va_D A (cW ad y (cFd x u (fdX x1 x2 x3 x4 x5) 4) R) := by rw [hz3] at hD; exact hD
    refine lv_aload_n hx hb dX9_feed_52 rfl (lv_at hl 0 rfl) ?_
    refine cg_X9_tape (i := 0) hx hb hts hin9 hown hK hP ((hR 0 (0)).mpr Nat.zero_lt_one) (by decide +kernel) dX9_feed_53 ?_
    refine lv_iload hx hb dX9_feed_56 (lv_at hl 5 rfl) ?_
    refine c_callv (ci := 8) (q := (RX8, TX8, 2)) (κ := 1) (i := 0) (As := [.int x5]) (rest := []) ⟨hx, hb, hml, hown, hts⟩ (ctX8_append l D y ad (cFd x u (fdX x1 x2 x3 x4 x5) 4) R qs nC nT hR x5 (u + 4 * 4) (cFd_u hu _ 4) (by omega)) (cwV 1 hts gX9_feed_X8_append rfl rfl rfl (by decide +kernel) ⟨Nat.le_of_ble_eq_true rfl, Nat.le_of_ble_eq_true rfl⟩) ((hR 1 (0)).mpr Nat.zero_lt_one) (fun _ _ _ => ⟨_, rfl⟩) rfl hE hK hP hD hS hA rfl hl.1 rfl (Nat.le_of_ble_eq_true rfl) dX9_feed_58 ⟨Nat.zero_le _, Nat.zero_le _⟩ (fun z4 H locs hz4 hP hD hS => ?_)
    have hP : va_P D vwCl (cW ad y (cFd x u (fdX x1 x2 x3 x4 x5) 5) R) H := by rw [hz4] at hP; exact hP
    have hD : va_D A (cW ad y (cFd x u (fdX x1 x2 x3 x4 x5) 5) R) := by rw [hz4] at hD; exact hD
    refine lv_aload_n hx hb dX9_feed_61 rfl (lv_at hl 0 rfl) ?_
    refine cg_X9_tape (i := 0) hx hb hts hin9 hown hK hP ((hR 0 (0)).mpr Nat.zero_lt_one) (by decide +kernel) dX9_feed_62 ?_
    refine cg_X8_used (i := 0) hx hb hts hin8 hown hK hP ((hR 1 (0)).mpr Nat.zero_lt_one) (by decide +kernel) dX9_feed_65 ?_
    exact c_reti hx hb hr hlocks hAe hK hP hD hS rfl dX9_feed_68 (by rw [csFeed, if_pos h20, cFd_u (x := x) hu])
  · have h20 : ¬ u + 20 ≤ 1000 := fun q9 => c_13 (by rw [hu, show (20 : Int32) = nI 20 from rfl, nI_add]; exact nI_le (b := 1000) q9 (by omega))
    refine lv_bipush (v := (-3)) hx hb dX9_feed_16 (by decide) ?_
    exact c_reti hx hb hr hlocks hAe hK hP hD hS rfl dX9_feed_18 (by rw [csFeed, if_neg h20]; rfl)
