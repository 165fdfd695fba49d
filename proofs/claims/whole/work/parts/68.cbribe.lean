/-! the landed program: BribeCounter -/
def cKL (u x : cS) : Prop := u.1 = x.1 ∧ u.2.2 = x.2.2
theorem lN_inj0 {n : Nat} (h : n < 2 ^ 64) : lN n = 0 ↔ n = 0 := by
  constructor
  · intro q
    have h1 := wb_tn h
    rw [q] at h1
    exact h1.symm
  · rintro rfl; rfl
theorem min12 {z : Nat} (h : z < 2 ^ 31) : (if (12 : Int32) < nI z then 12 else nI z) = nI (min z 12) := by
  rw [show (12 : Int32) = nI 12 from rfl]
  by_cases h9 : 12 < z
  · rw [if_pos ((nI_ltI (by omega) h).mpr h9), Nat.min_eq_right (by omega)]
  · rw [if_neg (fun q9 => h9 ((nI_ltI (by omega) h).mp q9)), Nat.min_eq_left (by omega)]
def pcn (j : Nat) : Nat := j % 2 + j / 2 % 2 + j / 4 % 2 + j / 8 % 2 + j / 16 % 2
def us9 (x : Int64) (y : Int32) : Int64 := (x.toUInt64 >>> (y.toInt64.toUInt64 &&& Int64.toUInt64 63)).toInt64
def bcA (i : Int64) : Int64 := i - (us9 i 1 &&& 6148914691236517205)
def bcB (i : Int64) : Int64 := (i &&& 3689348814741910323) + (us9 i 2 &&& 3689348814741910323)
def bcC (i : Int64) : Int64 := (i + us9 i 4) &&& 1085102592571150095
def bcD (i : Int64) : Int64 := i + us9 i 8
def bcE (i : Int64) : Int64 := i + us9 i 16
def bcG (i : Int64) : Int64 := i + us9 i 32
theorem bc_tab : ∀ j, j < 32 → (bcG (bcE (bcD (bcC (bcB (bcA (lN j))))))).toInt32 &&& 127 = nI (pcn j) := by decide +kernel
set_option maxHeartbeats 4000000 in
set_option maxRecDepth 100000 in
/-- Long.bitCount -/
theorem ctJ13_bitCount_95d88 (l : Launch) (j : Nat) (hj : j < 32) : sMi l yJ13_bitCount_95d88 wsJ13_bitCount_95d88 ({ frames := 0, cells := 0, slots := 0, locals := 0 }) [.long (lN j)] (nI (pcn j)) := by
  refine sMi_of (cc := cJ13_bitCount_95d88) (maxL := 2) (ret := (some .int)) (by decide) rfl (Nat.le_of_ble_eq_true rfl) ?_
  intro p e s m below meth c ls hat hl
  obtain ⟨hx, hb, hr, hml, hts, hown, hlocks⟩ := hat
  have hown : s.vm.findClass RJ13 = some m.cls := hown
  have hl : lv_has ls 2 [(0, .long (lN j))] := hl
  have hS : va_S (fun _ => False) s.heap s.heap [] := va_S.rf
  refine lv_lload_n hx hb dJ13_bitCount_95d88_0 rfl (lv_at hl 0 rfl) ?_
  refine lv_lload_n hx hb dJ13_bitCount_95d88_1 rfl (lv_at hl 0 rfl) ?_
  refine lv_iconst (v := 1) hx hb dJ13_bitCount_95d88_2 (by decide) ?_
  refine lv_lushr hx hb dJ13_bitCount_95d88_3 rfl ?_
  refine lv_ldc2 (v := 6148914691236517205) hx hb hown (hts (.constantLong RJ13 314 (6148914691236517205)) (by decide +kernel)) dJ13_bitCount_95d88_4 ?_
  refine lv_land hx hb dJ13_bitCount_95d88_7 ?_
  refine lv_lsub hx hb dJ13_bitCount_95d88_8 ?_
  refine lv_topl (fun z1 ez1 => ?_)
  refine lv_lstore_n (lv' := [(0, .long z1)]) hx hb dJ13_bitCount_95d88_9 rfl hl (by decide) rfl (fun ls hl => ?_)
  refine lv_lload_n hx hb dJ13_bitCount_95d88_10 rfl (lv_at hl 0 rfl) ?_
  refine lv_ldc2 (v := 3689348814741910323) hx hb hown (hts (.constantLong RJ13 316 (3689348814741910323)) (by decide +kernel)) dJ13_bitCount_95d88_11 ?_
  refine lv_land hx hb dJ13_bitCount_95d88_14 ?_
  refine lv_lload_n hx hb dJ13_bitCount_95d88_15 rfl (lv_at hl 0 rfl) ?_
  refine lv_iconst (v := 2) hx hb dJ13_bitCount_95d88_16 (by decide) ?_
  refine lv_lushr hx hb dJ13_bitCount_95d88_17 rfl ?_
  refine lv_ldc2 (v := 3689348814741910323) hx hb hown (hts (.constantLong RJ13 316 (3689348814741910323)) (by decide +kernel)) dJ13_bitCount_95d88_18 ?_
  refine lv_land hx hb dJ13_bitCount_95d88_21 ?_
  refine lv_ladd hx hb dJ13_bitCount_95d88_22 ?_
  refine lv_topl (fun z2 ez2 => ?_)
  refine lv_lstore_n (lv' := [(0, .long z2)]) hx hb dJ13_bitCount_95d88_23 rfl hl (by decide) rfl (fun ls hl => ?_)
  refine lv_lload_n hx hb dJ13_bitCount_95d88_24 rfl (lv_at hl 0 rfl) ?_
  refine lv_lload_n hx hb dJ13_bitCount_95d88_25 rfl (lv_at hl 0 rfl) ?_
  refine lv_iconst (v := 4) hx hb dJ13_bitCount_95d88_26 (by decide) ?_
  refine lv_lushr hx hb dJ13_bitCount_95d88_27 rfl ?_
  refine lv_ladd hx hb dJ13_bitCount_95d88_28 ?_
  refine lv_ldc2 (v := 1085102592571150095) hx hb hown (hts (.constantLong RJ13 318 (1085102592571150095)) (by decide +kernel)) dJ13_bitCount_95d88_29 ?_
  refine lv_land hx hb dJ13_bitCount_95d88_32 ?_
  refine lv_topl (fun z3 ez3 => ?_)
  refine lv_lstore_n (lv' := [(0, .long z3)]) hx hb dJ13_bitCount_95d88_33 rfl hl (by decide) rfl (fun ls hl => ?_)
  refine lv_lload_n hx hb dJ13_bitCount_95d88_34 rfl (lv_at hl 0 rfl) ?_
  refine lv_lload_n hx hb dJ13_bitCount_95d88_35 rfl (lv_at hl 0 rfl) ?_
  refine lv_bipush (v := 8) hx hb dJ13_bitCount_95d88_36 (by decide) ?_
  refine lv_lushr hx hb dJ13_bitCount_95d88_38 rfl ?_
  refine lv_ladd hx hb dJ13_bitCount_95d88_39 ?_
  refine lv_topl (fun z4 ez4 => ?_)
  refine lv_lstore_n (lv' := [(0, .long z4)]) hx hb dJ13_bitCount_95d88_40 rfl hl (by decide) rfl (fun ls hl => ?_)
  refine lv_lload_n hx hb dJ13_bitCount_95d88_41 rfl (lv_at hl 0 rfl) ?_
  refine lv_lload_n hx hb dJ13_bitCount_95d88_42 rfl (lv_at hl 0 rfl) ?_
  refine lv_bipush (v := 16) hx hb dJ13_bitCount_95d88_43 (by decide) ?_
  refine lv_lushr hx hb dJ13_bitCount_95d88_45 rfl ?_
  refine lv_ladd hx hb dJ13_bitCount_95d88_46 ?_
  refine lv_topl (fun z5 ez5 => ?_)
  refine lv_lstore_n (lv' := [(0, .long z5)]) hx hb dJ13_bitCount_95d88_47 rfl hl (by decide) rfl (fun ls hl => ?_)
  refine lv_lload_n hx hb dJ13_bitCount_95d88_48 rfl (lv_at hl 0 rfl) ?_
  refine lv_lload_n hx hb dJ13_bitCount_95d88_49 rfl (lv_at hl 0 rfl) ?_
  refine lv_bipush (v := 32) hx hb dJ13_bitCount_95d88_50 (by decide) ?_
  refine lv_lushr hx hb dJ13_bitCount_95d88_52 rfl ?_
  refine lv_ladd hx hb dJ13_bitCount_95d88_53 ?_
  refine lv_topl (fun z6 ez6 => ?_)
  refine lv_lstore_n (lv' := [(0, .long z6)]) hx hb dJ13_bitCount_95d88_54 rfl hl (by decide) rfl (fun ls hl => ?_)
  refine lv_lload_n hx hb dJ13_bitCount_95d88_55 rfl (lv_at hl 0 rfl) ?_
  refine lv_l2i hx hb dJ13_bitCount_95d88_56 rfl ?_
  refine lv_bipush (v := 127) hx hb dJ13_bitCount_95d88_57 (by decide) ?_
  refine lv_iand hx hb dJ13_bitCount_95d88_59 ?_
  exact s_reti hx hb hr hlocks rfl hS dJ13_bitCount_95d88_60 (by rw [ez6, ez5, ez4, ez3, ez2, ez1]; exact bc_tab j hj)
set_option maxHeartbeats 4000000 in
set_option maxRecDepth 100000 in
/-- BribeCounter.fits -/
theorem ctX0_fits (l : Launch) (bits : Int64) (Rr : Nat) (hr30 : Rr ≤ 150) : sMi l yX0_fits wsX0_fits ({ frames := 1, cells := 0, slots := 0, locals := 27 }) [.long bits, .int (nI Rr)] (zI (decide (uNat bits / 2 ^ (5 * min Rr 12) = 0))) := by
  refine sMi_of (cc := cX0_fits) (maxL := 4) (ret := (some .boolean)) (by decide) rfl (Nat.le_of_ble_eq_true rfl) ?_
  intro p e s m below meth c ls hat hl
  obtain ⟨hx, hb, hr, hml, hts, hown, hlocks⟩ := hat
  have hown : s.vm.findClass RX0 = some m.cls := hown
  have hl : lv_has ls 4 [(0, .long bits), (2, .int (nI Rr))] := hl
  have hS : va_S (fun _ => False) s.heap s.heap [] := va_S.rf
  refine lv_iload_n hx hb dX0_fits_0 rfl (lv_at hl 1 rfl) ?_
  refine lv_bipush (v := 12) hx hb dX0_fits_1 (by decide) ?_
  refine va_mmin hx hb (by rw [hml]; exact hl.1.symm) hown (hts _ (by decide +kernel)) (hts _ (by decide +kernel)) (hts _ (by decide +kernel)) (hts _ (by decide +kernel)) (Nat.le_of_ble_eq_true rfl) (Nat.le_of_ble_eq_true rfl) (Nat.zero_le _) (Nat.zero_le _) dX0_fits_3 ?_
  refine lv_iconst (v := 5) hx hb dX0_fits_6 (by decide) ?_
  refine lv_imul hx hb dX0_fits_7 ?_
  refine lv_topi (fun x3 ex3 => ?_)
  refine lv_istore_n (lv' := [(3, .int x3), (0, .long bits), (2, .int (nI Rr))]) hx hb dX0_fits_8 rfl hl (by decide) rfl (fun ls hl => ?_)
  have hx3 : x3 = nI (5 * min Rr 12) := by rw [ex3, min12 (show Rr < 2 ^ 31 by omega), show (5 : Int32) = nI 5 from rfl, pk_mul, Nat.mul_comm]
  have hshr : us9 bits x3 = lN (uNat bits / 2 ^ (5 * min Rr 12)) := by rw [hx3, us9, show bits = lN (uNat bits) from uNat_l bits]; rw [wb_shr (uNat_lt _) (by omega), show uNat (lN (uNat bits)) = uNat bits by rw [← uNat_l]]
  refine lv_lload_n hx hb dX0_fits_9 rfl (lv_at hl 1 rfl) ?_
  refine lv_iload_n hx hb dX0_fits_10 rfl (lv_at hl 0 rfl) ?_
  refine lv_lushr hx hb dX0_fits_11 rfl ?_
  refine lv_lconst (v := 0) hx hb dX0_fits_12 (by decide) ?_
  refine W.lcmp hx hb dX0_fits_13 ?_
  refine lv_if_ne (tgt := 21) hx hb dX0_fits_14 (by decide) (fun c_14 => ?_) (fun c_14 => ?_)
  · have b14 : ¬ uNat bits / 2 ^ (5 * min Rr 12) = 0 := fun q => c_14 ((lg_cmp_eq _ _).mpr (by show us9 bits x3 = 0; rw [hshr, q]; rfl))
    refine lv_iconst (v := 0) hx hb dX0_fits_21 (by decide) ?_
    exact s_reti hx hb hr hlocks (by first | rfl | decide) hS dX0_fits_22 (by simp [zI, b14])
  · have b14 : uNat bits / 2 ^ (5 * min Rr 12) = 0 := by have h9 : us9 bits x3 = 0 := (lg_cmp_eq _ _).mp c_14; rw [hshr] at h9; exact (lN_inj0 (Nat.lt_of_le_of_lt (Nat.div_le_self _ _) (uNat_lt bits))).mp h9
    refine lv_iconst (v := 1) hx hb dX0_fits_17 (by decide) ?_
    refine lv_goto (tgt := 22) hx hb dX0_fits_18 (by decide) ?_
    exact s_reti hx hb hr hlocks (by first | rfl | decide) hS dX0_fits_22 (by simp [zI, b14])
def arw (W : Nat → Nat → Nat) (rb b k n : Nat) : Nat := W k n + (if 0 < k ∧ k ≤ rb + 1 ∧ b ≤ n then W (k - 1) (n - b) else 0)
def arI (W : Nat → Nat → Nat) (rb b kk s k n : Nat) : Nat := if kk < k ∨ (k = kk ∧ n < s + b) then arw W rb b k n else W k n
theorem arI_in {W : Nat → Nat → Nat} {rb b kk k n : Nat} : arI W rb b kk 0 k n = arI W rb b (kk + 1) 61 k n ∨ ¬ n < 61 ∨ kk = kk := Or.inr (Or.inr rfl)
theorem arI_next {W : Nat → Nat → Nat} {rb b kk s k n : Nat} (hs : 60 < s + b) (hn : n < 61) (hkk : 0 < kk) : arI W rb b kk s k n = arI W rb b (kk - 1) 0 k n := by
  unfold arI
  by_cases h1 : kk < k
  · rw [if_pos (Or.inl h1), if_pos (Or.inl (by omega))]
  · by_cases h2 : k = kk
    · rw [if_pos (Or.inr ⟨h2, by omega⟩), if_pos (Or.inl (by omega))]
    · by_cases h3 : k = kk - 1
      · rw [if_neg (by omega)]
        by_cases h4 : n < 0 + b
        · rw [if_pos (Or.inr ⟨h3, h4⟩), arw, if_neg (by omega)]; rfl
        · rw [if_neg (by omega)]
      · rw [if_neg (by omega), if_neg (by omega)]
theorem arI_0 {W : Nat → Nat → Nat} {rb b k n : Nat} (h : ∀ k n, rb < k → W k n = 0) : arI W rb b (rb + 1) 0 k n = W k n := by
  unfold arI
  by_cases h1 : rb + 1 < k ∨ (k = rb + 1 ∧ n < 0 + b)
  · rw [if_pos h1, arw, if_neg (by omega)]; rfl
  · rw [if_neg h1]
theorem arI_end {W : Nat → Nat → Nat} {rb b k n : Nat} : arI W rb b 0 0 k n = arw W rb b k n := by
  unfold arI
  by_cases h1 : 0 < k ∨ (k = 0 ∧ n < 0 + b)
  · rw [if_pos h1]
  · rw [if_neg h1, arw, if_neg (by omega)]; rfl
theorem arst {u : cS} {W : Nat → Nat → Nat} {rb b kk s : Nat} (hk1 : 0 < kk) (hkr : kk ≤ rb + 1) (hi : ∀ k, k < 13 → ∀ n, n < 61 → u.2.1 16 k n = lN (arI W rb b kk s k n)) (k : Nat) (hk : k < 13) (n : Nat) (hn : n < 61) (z : Int64) (hz : z = lN (arI W rb b kk s kk (s + b) + arI W rb b kk s (kk - 1) s)) {j : Nat} (hj : j = s + b) : (cL u 16 kk j z).2.1 16 k n = lN (arI W rb b kk (s + 1) k n) := by
  rw [cL_r]
  by_cases h1 : k = kk ∧ n = j
  · rw [if_pos ⟨rfl, h1⟩, hz]
    have e1 : arI W rb b kk s kk (s + b) = W kk (s + b) := if_neg (by omega)
    have e2 : arI W rb b kk s (kk - 1) s = W (kk - 1) s := if_neg (by omega)
    have e3 : arI W rb b kk (s + 1) k n = arw W rb b kk (s + b) := by
      rw [arI, if_pos (Or.inr ⟨h1.1, by omega⟩), h1.1, h1.2, hj]
    rw [e1, e2, e3, arw, if_pos (by omega), Nat.add_sub_cancel]
  · rw [if_neg (by rintro ⟨-, h2⟩; exact h1 h2), hi k hk n hn]
    congr 1
    unfold arI
    by_cases h3 : kk < k ∨ (k = kk ∧ n < s + b)
    · rw [if_pos h3, if_pos (by omega)]
    · rw [if_neg h3, if_neg (by omega)]
theorem mn11 {rb : Nat} (h : rb < 12) : (if (11 : Int32) < nI rb then 11 else nI rb) = nI rb := if_neg (fun q9 => by have := (nI_ltI (a := 11) (by omega) (by omega)).mp q9; omega)
set_option maxHeartbeats 4000000 in
set_option maxRecDepth 100000 in
/-- BribeCounter.addRow -/
theorem ctX0_addRow (l : Launch) (D : va_G) (y : Nat → ClassId) (ad : Nat → Nat → Nat) (x : cS) (R : List (Nat × Nat)) (qs : Nat → Nat × Nat) (nC nT : Nat) (hR : cHas R nC nT) (rb b : Nat) (W9 : Nat → Nat → Nat) (hrb : rb < 12) (hb1 : 0 < b) (hb5 : b ≤ 5) (hW : ∀ k, k < 13 → ∀ n, n < 61 → x.2.1 16 k n = lN (W9 k n)) (hW0 : ∀ k n, rb < k → W9 k n = 0) : cMv l yX0_addRow wsX0_addRow ({ frames := 1, cells := 0, slots := 0, locals := 27 }) D y ad x R qs [.ref (ad 14 0), .int (nI rb), .int (nI b)] (fun x' => cKL x' x ∧ ∀ k, k < 13 → ∀ n, n < 61 → x'.2.1 16 k n = lN (arw W9 rb b k n)) := by
  refine cMv_of (cc := cX0_addRow) (maxL := 5) (ret := none) (by decide) rfl (Nat.le_of_ble_eq_true rfl) ?_
  intro p e s m below meth c A ls hat hAe hl
  obtain ⟨hx, hb, hr, hml, hts, hown, hlocks, hK, hP, hD, hA, hE⟩ := hat
  have hown : s.vm.findClass RX0 = some m.cls := hown
  have hin0 : ∀ w ∈ wsX00, w ∈ wsX0_addRow := fun _ h9 => List.mem_cons_of_mem _ (List.mem_append_right _ h9)
  have hl : lv_has ls 5 [(0, .ref (ad 14 0)), (1, .int (nI rb)), (2, .int (nI b))] := hl
  have hS : va_S A s.heap s.heap [] := va_S.rf
  refine lv_iload_n hx hb dX0_addRow_0 rfl (lv_at hl 1 rfl) ?_
  refine lv_bipush (v := 11) hx hb dX0_addRow_1 (by decide) ?_
  refine va_mmin hx hb (by rw [hml]; exact hl.1.symm) hown (hts _ (by decide +kernel)) (hts _ (by decide +kernel)) (hts _ (by decide +kernel)) (hts _ (by decide +kernel)) (Nat.le_of_ble_eq_true rfl) (Nat.le_of_ble_eq_true rfl) (Nat.zero_le _) (Nat.zero_le _) dX0_addRow_3 ?_
  rw [mn11 hrb]
  refine lv_topi (fun x3_1 ex3_1 => ?_)
  refine lv_istore_n (lv' := [(3, .int x3_1), (0, .ref (ad 14 0)), (1, .int (nI rb)), (2, .int (nI b))]) hx hb dX0_addRow_6 rfl hl (by decide) rfl (fun ls hl => ?_)
  have lp_7 : ∀ (n_7 : Nat) (kk : Nat) (u : cS) (x3 : Int32), (kk ≤ rb + 1) → (kk + 1 ≤ n_7) → (x3 = nI kk - 1) → (cKL u x) → (∀ k, k < 13 → ∀ n, n < 61 → u.2.1 16 k n = lN (arI W9 rb b kk 0 k n)) → ∀ (H : Heap) (locs : List Loc), va_P D vwCl (cW ad y u R) H → va_D A (cW ad y u R) → va_S A s.heap H locs → ∀ (ls : Array Slot), lv_has ls 5 [(0, .ref (ad 14 0)), (1, .int (nI rb)), (2, .int (nI b)), (3, .int x3)] → W p l e (headSpec wsX0_addRow ({ frames := 1, cells := 0, slots := 0, locals := 27 })).room s m ([.ref (ad 14 0), .int (nI rb), .int (nI b)] : List Value).toArray below meth c H locs 0 0 (MQ below (va_Qv (fun x' => cKL x' x ∧ ∀ k, k < 13 → ∀ n, n < 61 → x'.2.1 16 k n = lN (arw W9 rb b k n)) (cEnd D y ad R s.heap.size) A) ([.ref (ad 14 0), .int (nI rb), .int (nI b)] : List Value).toArray s 0 0 A) (F0 m 7 ls []) := by
    intro n_7
    induction n_7 with
    | zero =>
      intro kk u x3 hk0 hf ex3 hkl hiu
      exact absurd hf (by omega)
    | succ n_7 ih_7 =>
      intro kk u x3 hk0 hf ex3 hkl hiu H locs hP hD hS ls hl
      refine lv_iload_n hx hb dX0_addRow_7 rfl (lv_at hl 3 rfl) ?_
      refine lv_if_lt (tgt := 60) hx hb dX0_addRow_8 (by decide) (fun c_8 => ?_) (fun c_8 => ?_)
      · have hk1 : kk = 0 := by rcases Nat.eq_zero_or_pos kk with q | q; exact q; exact absurd c_8 (by rw [ex3, show kk = kk - 1 + 1 by omega, nI_pred]; exact nI_pos (by omega))
        exact c_retv hx hb hr hlocks hAe hK hP hD hS dX0_addRow_60 (⟨hkl, fun k9 hk9 n9 hn9 => by rw [hiu k9 hk9 n9 hn9, hk1, arI_end]⟩)
      · have hk1 : 0 < kk := by rcases Nat.eq_zero_or_pos kk with q | q; exact absurd (by rw [ex3, q]; decide) c_8; exact q
        have hks : kk ≤ rb + 1 := hk0
        have hx3 : x3 = nI (kk - 1) := by rw [ex3, show kk = kk - 1 + 1 by omega, nI_pred]; rfl
        refine lv_iconst (v := 0) hx hb dX0_addRow_11 (by decide) ?_
        refine lv_istore (lv' := [(4, .int 0), (0, .ref (ad 14 0)), (1, .int (nI rb)), (2, .int (nI b)), (3, .int x3)]) hx hb dX0_addRow_12 hl (by decide) rfl (fun ls hl => ?_)
        have lp_14 : ∀ (n_14 : Nat) (s9 : Nat) (u : cS) (x4 : Int32), (s9 ≤ 61) → (62 ≤ s9 + n_14) → (x4 = nI s9) → (cKL u x) → (∀ k, k < 13 → ∀ n, n < 61 → u.2.1 16 k n = lN (arI W9 rb b kk s9 k n)) → ∀ (H : Heap) (locs : List Loc), va_P D vwCl (cW ad y u R) H → va_D A (cW ad y u R) → va_S A s.heap H locs → ∀ (ls : Array Slot), lv_has ls 5 [(0, .ref (ad 14 0)), (1, .int (nI rb)), (2, .int (nI b)), (3, .int x3), (4, .int x4)] → W p l e (headSpec wsX0_addRow ({ frames := 1, cells := 0, slots := 0, locals := 27 })).room s m ([.ref (ad 14 0), .int (nI rb), .int (nI b)] : List Value).toArray below meth c H locs 0 0 (MQ below (va_Qv (fun x' => cKL x' x ∧ ∀ k, k < 13 → ∀ n, n < 61 → x'.2.1 16 k n = lN (arw W9 rb b k n)) (cEnd D y ad R s.heap.size) A) ([.ref (ad 14 0), .int (nI rb), .int (nI b)] : List Value).toArray s 0 0 A) (F0 m 14 ls []) := by
          intro n_14
          induction n_14 with
          | zero =>
            intro s9 u x4 hs0 hf2 ex4 hkl hiu
            exact absurd hf2 (by omega)
          | succ n_14 ih_14 =>
            intro s9 u x4 hs0 hf2 ex4 hkl hiu H locs hP hD hS ls hl
            have hsb : x4 + nI b = nI (s9 + b) := by rw [ex4, nI_add]
            have hcsb : (x4 + nI b).toNatClampNeg = s9 + b := by rw [hsb]; exact nI_clamp (by omega)
            have hx4c : x4.toNatClampNeg = s9 := by rw [ex4]; exact nI_clamp (by omega)
            refine lv_iload hx hb dX0_addRow_14 (lv_at hl 4 rfl) ?_
            refine lv_iload_n hx hb dX0_addRow_16 rfl (lv_at hl 2 rfl) ?_
            refine lv_iadd hx hb dX0_addRow_17 ?_
            refine lv_bipush (v := 60) hx hb dX0_addRow_18 (by decide) ?_
            refine lv_icmp_gt (tgt := 54) hx hb dX0_addRow_20 (by decide) (fun c_20 => ?_) (fun c_20 => ?_)
            · have hs60 : 60 < s9 + b := by rw [hsb] at c_20; exact (nI_ltI (a := 60) (by omega) (by omega)).mp c_20
              obtain ⟨x3_2, ex3_2⟩ : ∃ z : Int32, z = x3 + (-1) := ⟨_, rfl⟩
              refine lv_iinc (v := x3_2) (lv' := [(3, .int x3_2), (0, .ref (ad 14 0)), (1, .int (nI rb)), (2, .int (nI b)), (4, .int x4)]) hx hb dX0_addRow_54 hl (k := 3) rfl (by rw [ex3_2]; rfl) (by decide) rfl (fun ls hl => ?_)
              refine lv_goto (tgt := 7) hx hb dX0_addRow_57 (by decide) ?_
              exact ih_7 (kk - 1) _ _ (by omega) (by omega) (by rw [ex3_2, hx3, show (-1 : Int32) = - 1 from rfl, ← Int32.sub_eq_add_neg]) ⟨hkl.1, hkl.2⟩ (fun k9 hk9 n9 hn9 => by rw [hiu k9 hk9 n9 hn9, arI_next hs60 hn9 hk1]) _ _ hP hD hS _ (lv_sub hl [1, 2, 3, 0] rfl)
            · have hs60 : s9 + b < 61 := by rw [hsb] at c_20; exact Nat.lt_succ_of_le (Nat.not_lt.mp (fun q9 => c_20 ((nI_ltI (a := 60) (by omega) (by omega)).mpr q9)))
              refine lv_aload_n hx hb dX0_addRow_23 rfl (lv_at hl 0 rfl) ?_
              refine cg_X0_ways (i := 0) hx hb hts hin0 hown hK hP ((hR 14 (0)).mpr Nat.zero_lt_one) (by decide +kernel) dX0_addRow_24 ?_
              refine lv_iload_n hx hb dX0_addRow_27 rfl (lv_at hl 3 rfl) ?_
              refine lv_iconst (v := 1) hx hb dX0_addRow_28 (by decide) ?_
              refine lv_iadd hx hb dX0_addRow_29 ?_
              rw [show x3 + 1 = nI kk by rw [ex3]; exact Int32.sub_add_cancel _ _]
              refine cl_ways ((show kk < 13 by omega)) hx hb hK hP ((hR 15 (0)).mpr Nat.zero_lt_one) dX0_addRow_30 ?_
              refine lv_iload hx hb dX0_addRow_31 (lv_at hl 4 rfl) ?_
              refine lv_iload_n hx hb dX0_addRow_33 rfl (lv_at hl 2 rfl) ?_
              refine lv_iadd hx hb dX0_addRow_34 ?_
              refine lv_dup2_11 hx hb dX0_addRow_35 rfl rfl ?_
              refine cl_long 16 (kk) 61 hx hb hK hP ((hR 16 (kk)).mpr (show kk < 13 by omega)) (fun _ _ _ => rfl) (by rw [hsb]; exact vp_in_nI hs60 (by omega)) dX0_addRow_36 ?_
              refine lv_aload_n hx hb dX0_addRow_37 rfl (lv_at hl 0 rfl) ?_
              refine cg_X0_ways (i := 0) hx hb hts hin0 hown hK hP ((hR 14 (0)).mpr Nat.zero_lt_one) (by decide +kernel) dX0_addRow_38 ?_
              refine lv_iload_n hx hb dX0_addRow_41 rfl (lv_at hl 3 rfl) ?_
              rw [hx3]
              refine cl_ways ((show kk - 1 < 13 by omega)) hx hb hK hP ((hR 15 (0)).mpr Nat.zero_lt_one) dX0_addRow_42 ?_
              refine lv_iload hx hb dX0_addRow_43 (lv_at hl 4 rfl) ?_
              refine cl_long 16 (kk - 1) 61 hx hb hK hP ((hR 16 (kk - 1)).mpr (show kk - 1 < 13 by omega)) (fun _ _ _ => rfl) (by rw [ex4]; exact vp_in_nI (by omega) (by omega)) dX0_addRow_45 ?_
              refine lv_ladd hx hb dX0_addRow_46 ?_
              refine cs_long 16 (kk) 61 hx hb hK hP hD hS ((hR 16 (kk)).mpr (show kk < 13 by omega)) (fun _ _ _ => rfl) (by rw [hsb]; exact vp_in_nI hs60 (by omega)) dX0_addRow_47 (fun H locs hP hD hS => ?_)
              obtain ⟨x4_3, ex4_3⟩ : ∃ z : Int32, z = x4 + 1 := ⟨_, rfl⟩
              refine lv_iinc (v := x4_3) (lv' := [(4, .int x4_3), (0, .ref (ad 14 0)), (1, .int (nI rb)), (2, .int (nI b)), (3, .int x3)]) hx hb dX0_addRow_48 hl (k := 4) rfl (by rw [ex4_3]; rfl) (by decide) rfl (fun ls hl => ?_)
              refine lv_goto (tgt := 14) hx hb dX0_addRow_51 (by decide) ?_
              exact ih_14 (s9 + 1) (cL u 16 kk (x4 + nI b).toNatClampNeg (u.2.1 16 kk (x4 + nI b).toNatClampNeg + u.2.1 16 (kk - 1) x4.toNatClampNeg)) _ (by omega) (by omega) (by rw [ex4_3, ex4]; exact nI_1 _) ⟨hkl.1, hkl.2⟩ (fun k9 hk9 n9 hn9 => arst hk1 hks hiu k9 hk9 n9 hn9 _ (by rw [hcsb, hiu kk (by omega) (s9 + b) (by omega), hx4c, hiu (kk - 1) (by omega) s9 (by omega), lN_add]) hcsb) _ _ hP hD hS _ (lv_sub hl [1, 2, 3, 4, 0] rfl)
        exact lp_14 62 0 _ _ (Nat.zero_le _) (by omega) rfl hkl hiu _ _ hP hD hS _ (lv_sub hl [1, 2, 3, 4, 0] rfl)
  exact lp_7 (rb + 2) (rb + 1) x _ (Nat.le_refl _) (by omega) (by rw [ex3_1]; exact (nI_pred rb).symm) ⟨rfl, rfl⟩ (fun k9 hk9 n9 hn9 => by rw [arI_0 hW0]; exact hW k9 hk9 n9 hn9) _ _ hP hD hS _ (lv_sub hl [1, 2, 3, 0] rfl)
