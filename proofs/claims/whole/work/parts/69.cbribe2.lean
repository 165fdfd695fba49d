/-! the landed program: BribeCounter.tellRows, waysWithAtLeast -/
def cz (bs : Nat → Nat) : Nat → Nat → Nat → Nat
  | 0, k, n => if k = 0 ∧ n = 0 then 1 else 0
  | r + 1, k, n => if bs r = 0 then cz bs r k n else cz bs r k n + (if 0 < k ∧ bs r ≤ n then cz bs r (k - 1) (n - bs r) else 0)
def nzr (bs : Nat → Nat) (r : Nat) : Nat := cnt (fun i => !decide (bs i = 0)) r
theorem nzr_z {bs : Nat → Nat} {r : Nat} (h : bs r = 0) : nzr bs (r + 1) = nzr bs r := by simp [nzr, cnt, h]
theorem nzr_s {bs : Nat → Nat} {r : Nat} (h : ¬ bs r = 0) : nzr bs (r + 1) = nzr bs r + 1 := by simp [nzr, cnt, h]
theorem nzr_le (bs : Nat → Nat) (r : Nat) : nzr bs r ≤ r := cnt_le _ _
theorem cz_0 (bs : Nat → Nat) : ∀ r k n, nzr bs r < k → cz bs r k n = 0
  | 0, k, n, h => by rw [cz, if_neg (by omega)]
  | r + 1, k, n, h => by
    rw [cz]
    by_cases hb : bs r = 0
    · rw [if_pos hb]; rw [nzr_z hb] at h; exact cz_0 bs r k n h
    · rw [nzr_s hb] at h
      rw [if_neg hb, cz_0 bs r k n (by omega)]
      split
      · rw [cz_0 bs r (k - 1) _ (by omega)]
      · rfl
theorem arw_cz {bs : Nat → Nat} {r : Nat} (hb : ¬ bs r = 0) (k n : Nat) : arw (cz bs r) (nzr bs r) (bs r) k n = cz bs (r + 1) k n := by
  rw [arw, cz, if_neg hb]
  by_cases h1 : k ≤ nzr bs r + 1
  · simp only [h1, true_and]
  · rw [if_neg (by omega)]
    by_cases h2 : 0 < k ∧ bs r ≤ n
    · rw [if_pos h2, cz_0 bs r (k - 1) _ (by omega)]
    · rw [if_neg h2]
theorem pcn_bsm (N r : Nat) : pcn (N / 2 ^ (5 * r) % 32) = bsm N r 5 := by
  have h : ∀ l, N / 2 ^ (5 * r + l) = N / 2 ^ (5 * r) / 2 ^ l := fun l => by rw [Nat.pow_add, Nat.div_div_eq_div_mul]
  simp only [bsm, h, pcn]
  generalize N / 2 ^ (5 * r) = M
  omega
theorem lshr5 {N r : Nat} (hN : N < 2 ^ 64) (hr : r < 12) {x4 : Int32} (e : x4 = nI r) {bits : Int64} (hb : bits = lN N) : ((bits.toUInt64 >>> ((x4 * 5).toInt64.toUInt64 &&& Int64.toUInt64 63)).toInt64) &&& 31 = lN (N / 2 ^ (5 * r) % 32) := by
  rw [e, hb, show nI r * 5 = nI (5 * r) by rw [show (5 : Int32) = nI 5 from rfl, pk_mul, Nat.mul_comm], wb_shr hN (by omega)]
  exact wb_mask (k := 5) (Nat.lt_of_le_of_lt (Nat.div_le_self _ _) hN) (by decide)
set_option maxHeartbeats 4000000 in
set_option maxRecDepth 100000 in
/-- BribeCounter.tellRows -/
theorem ctX0_tellRows (l : Launch) (D : va_G) (y : Nat → ClassId) (ad : Nat → Nat → Nat) (x : cS) (R : List (Nat × Nat)) (qs : Nat → Nat × Nat) (nC nT : Nat) (hR : cHas R nC nT) (bits : Int64) (N : Nat) (hbN : bits = lN N) (hN : N < 2 ^ 64) : cMi l yX0_tellRows wsX0_tellRows ({ frames := 2, cells := 0, slots := 0, locals := 51 }) D y ad x R qs [.ref (ad 14 0), .long bits] (fun r x' => r = nI (nzr (bbr N) 12) ∧ cKL x' x ∧ ∀ k, k < 13 → ∀ n, n < 61 → x'.2.1 16 k n = lN (cz (bbr N) 12 k n)) := by
  refine cMi_of (cc := cX0_tellRows) (maxL := 6) (ret := (some .int)) (by decide) rfl (Nat.le_of_ble_eq_true rfl) ?_
  intro p e s m below meth c A ls hat hAe hl
  obtain ⟨hx, hb, hr, hml, hts, hown, hlocks, hK, hP, hD, hA, hE⟩ := hat
  have hown : s.vm.findClass RX0 = some m.cls := hown
  have hin0 : ∀ w ∈ wsX00, w ∈ wsX0_tellRows := fun _ h9 => List.mem_cons_of_mem _ (List.mem_append_right _ h9)
  have hl : lv_has ls 6 [(0, .ref (ad 14 0)), (1, .long bits)] := hl
  have hS : va_S A s.heap s.heap [] := va_S.rf
  refine lv_iconst (v := 0) hx hb dX0_tellRows_0 (by decide) ?_
  refine lv_istore_n (lv' := [(3, .int 0), (0, .ref (ad 14 0)), (1, .long bits)]) hx hb dX0_tellRows_1 rfl hl (by decide) rfl (fun ls hl => ?_)
  have lp_2 : ∀ (n_2 : Nat) (j : Nat) (u : cS) (x3 : Int32), (j ≤ 13) → (13 + 1 ≤ j + n_2) → (x3 = nI j) → (cKL u x) → (∀ k, k < j → ∀ n, n < 61 → u.2.1 16 k n = 0) → ∀ (H : Heap) (locs : List Loc), va_P D vwCl (cW ad y u R) H → va_D A (cW ad y u R) → va_S A s.heap H locs → ∀ (ls : Array Slot), lv_has ls 6 [(0, .ref (ad 14 0)), (1, .long bits), (3, .int x3)] → W p l e (headSpec wsX0_tellRows ({ frames := 2, cells := 0, slots := 0, locals := 51 })).room s m ([.ref (ad 14 0), .long bits] : List Value).toArray below meth c H locs 0 0 (MQ below (va_Qi (fun r x' => r = nI (nzr (bbr N) 12) ∧ cKL x' x ∧ ∀ k, k < 13 → ∀ n, n < 61 → x'.2.1 16 k n = lN (cz (bbr N) 12 k n)) (cEnd D y ad R s.heap.size) A) ([.ref (ad 14 0), .long bits] : List Value).toArray s 0 0 A) (F0 m 2 ls []) := by
    intro n_2
    induction n_2 with
    | zero =>
      intro j u x3 hj hf ex3 hkl hzu
      exact absurd hf (by omega)
    | succ n_2 ih_2 =>
      intro j u x3 hj hf ex3 hkl hzu H locs hP hD hS ls hl
      refine lv_iload_n hx hb dX0_tellRows_2 rfl (lv_at hl 2 rfl) ?_
      refine lv_bipush (v := 12) hx hb dX0_tellRows_3 (by decide) ?_
      refine lv_icmp_gt (tgt := 24) hx hb dX0_tellRows_5 (by decide) (fun c_5 => ?_) (fun c_5 => ?_)
      · have hjn : j = 13 := by rw [ex3] at c_5; have := (nI_ltI (a := 12) (by omega) (by omega)).mp c_5; omega
        refine lv_aload_n hx hb dX0_tellRows_24 rfl (lv_at hl 0 rfl) ?_
        refine cg_X0_ways (i := 0) hx hb hts hin0 hown hK hP ((hR 14 (0)).mpr Nat.zero_lt_one) (by decide +kernel) dX0_tellRows_25 ?_
        refine lv_iconst (v := 0) hx hb dX0_tellRows_28 (by decide) ?_
        rw [show (0 : Int32) = nI 0 from rfl]
        refine cl_ways ((show 0 < 13 by omega)) hx hb hK hP ((hR 15 (0)).mpr Nat.zero_lt_one) dX0_tellRows_29 ?_
        refine lv_iconst (v := 0) hx hb dX0_tellRows_30 (by decide) ?_
        refine lv_lconst (v := 1) hx hb dX0_tellRows_31 (by decide) ?_
        refine cs_long 16 (0) 61 hx hb hK hP hD hS ((hR 16 (0)).mpr (show 0 < 13 by omega)) (fun _ _ _ => rfl) (show vp_in (nI 0) 61 from vp_in_nI (by omega) (by omega)) dX0_tellRows_32 (fun H locs hP hD hS => ?_)
        rw [show (0 : Int32).toNatClampNeg = 0 from rfl] at hP hD
        refine lv_iconst (v := 0) hx hb dX0_tellRows_33 (by decide) ?_
        refine lv_istore_n (lv' := [(3, .int 0), (0, .ref (ad 14 0)), (1, .long bits)]) hx hb dX0_tellRows_34 rfl hl (by decide) rfl (fun ls hl => ?_)
        refine lv_iconst (v := 0) hx hb dX0_tellRows_35 (by decide) ?_
        refine lv_istore (lv' := [(4, .int 0), (3, .int 0), (0, .ref (ad 14 0)), (1, .long bits)]) hx hb dX0_tellRows_36 hl (by decide) rfl (fun ls hl => ?_)
        have lp_38 : ∀ (n_38 : Nat) (r : Nat) (u : cS) (x3 : Int32) (x4 : Int32), (r ≤ 12) → (12 + 1 ≤ r + n_38) → (x4 = nI r) → (x3 = nI (nzr (bbr N) r)) → (cKL u x) → (∀ k, k < 13 → ∀ n, n < 61 → u.2.1 16 k n = lN (cz (bbr N) r k n)) → ∀ (H : Heap) (locs : List Loc), va_P D vwCl (cW ad y u R) H → va_D A (cW ad y u R) → va_S A s.heap H locs → ∀ (ls : Array Slot), lv_has ls 6 [(0, .ref (ad 14 0)), (1, .long bits), (3, .int x3), (4, .int x4)] → W p l e (headSpec wsX0_tellRows ({ frames := 2, cells := 0, slots := 0, locals := 51 })).room s m ([.ref (ad 14 0), .long bits] : List Value).toArray below meth c H locs 0 0 (MQ below (va_Qi (fun r x' => r = nI (nzr (bbr N) 12) ∧ cKL x' x ∧ ∀ k, k < 13 → ∀ n, n < 61 → x'.2.1 16 k n = lN (cz (bbr N) 12 k n)) (cEnd D y ad R s.heap.size) A) ([.ref (ad 14 0), .long bits] : List Value).toArray s 0 0 A) (F0 m 38 ls []) := by
          intro n_38
          induction n_38 with
          | zero =>
            intro r u x3 x4 hr0 hf2 ex4 ex3 hkl hiu
            exact absurd hf2 (by omega)
          | succ n_38 ih_38 =>
            intro r u x3 x4 hr0 hf2 ex4 ex3 hkl hiu H locs hP hD hS ls hl
            refine lv_iload hx hb dX0_tellRows_38 (lv_at hl 3 rfl) ?_
            refine lv_bipush (v := 12) hx hb dX0_tellRows_40 (by decide) ?_
            refine lv_icmp_ge (tgt := 81) hx hb dX0_tellRows_42 (by decide) (fun c_42 => ?_) (fun c_42 => ?_)
            · have hr12 : r = 12 := by rw [ex4] at c_42; have := (nI_leI (a := 12) (by omega) (by omega)).mp c_42; omega
              refine lv_iload_n hx hb dX0_tellRows_81 rfl (lv_at hl 2 rfl) ?_
              exact c_reti hx hb hr hlocks hAe hK hP hD hS rfl dX0_tellRows_82 (⟨by rw [ex3, hr12], hkl, by rw [hr12] at hiu; exact hiu⟩)
            · have hr12 : r < 12 := by rw [ex4] at c_42; exact Nat.not_le.mp (fun q9 => c_42 (nI_le (a := 12) q9 (by omega)))
              have hval := lshr5 hN hr12 ex4 hbN
              have hbb : bbr N r = bsm N r 5 := if_pos hr12
              have hb5 := bbr_le N r
              have hnz := nzr_le (bbr N) r
              refine lv_lload_n hx hb dX0_tellRows_45 rfl (lv_at hl 1 rfl) ?_
              refine lv_iload hx hb dX0_tellRows_46 (lv_at hl 3 rfl) ?_
              refine lv_iconst (v := 5) hx hb dX0_tellRows_48 (by decide) ?_
              refine lv_imul hx hb dX0_tellRows_49 ?_
              refine lv_lushr hx hb dX0_tellRows_50 rfl ?_
              refine lv_ldc2 (v := 31) hx hb hown (hts (.constantLong RX0 39 (31)) (by decide +kernel)) dX0_tellRows_51 ?_
              refine lv_land hx hb dX0_tellRows_54 ?_
              rw [hval]
              refine s_calli (As := [.long (lN (N / 2 ^ (5 * r) % 32))]) (rest := []) ⟨hx, hb, hml, hown, hts⟩ (ctJ13_bitCount_95d88 l (N / 2 ^ (5 * r) % 32) (Nat.mod_lt _ (by decide))) (va_cwS 1 hts gX0_tellRows_J13_bitCount_95d88 rfl rfl rfl (by decide +kernel) ⟨Nat.le_of_ble_eq_true rfl, Nat.le_of_ble_eq_true rfl⟩) hP hS rfl hl.1 rfl (Nat.le_of_ble_eq_true rfl) dX0_tellRows_55 ⟨Nat.zero_le _, Nat.zero_le _⟩ (fun H locs hP hS => ?_)
              refine lv_topi (fun x5 ex5 => ?_)
              refine lv_istore (lv' := [(5, .int x5), (0, .ref (ad 14 0)), (1, .long bits), (3, .int x3), (4, .int x4)]) hx hb dX0_tellRows_58 hl (by decide) rfl (fun ls hl => ?_)
              refine lv_iload hx hb dX0_tellRows_60 (lv_at hl 0 rfl) ?_
              refine lv_if_le (tgt := 75) hx hb dX0_tellRows_62 (by decide) (fun c_62 => ?_) (fun c_62 => ?_)
              · have h62 : bbr N r = 0 := by rw [ex5, pcn_bsm, ← hbb] at c_62; have := (nI_leI (b := 0) (by omega) (by omega)).mp c_62; omega
                obtain ⟨x4_1, ex4_1⟩ : ∃ z : Int32, z = x4 + 1 := ⟨_, rfl⟩
                refine lv_iinc (v := x4_1) (lv' := [(4, .int x4_1), (5, .int x5), (0, .ref (ad 14 0)), (1, .long bits), (3, .int x3)]) hx hb dX0_tellRows_75 hl (k := 4) rfl (by rw [ex4_1]; rfl) (by decide) rfl (fun ls hl => ?_)
                refine lv_goto (tgt := 38) hx hb dX0_tellRows_78 (by decide) ?_
                exact ih_38 (r + 1) u _ _ (by omega) (by omega) (by rw [ex4_1, ex4]; exact nI_1 _) (by rw [ex3, nzr_z h62]) hkl (fun k9 hk9 n9 hn9 => by rw [hiu k9 hk9 n9 hn9, cz, if_pos h62]) _ _ hP hD hS _ (lv_sub hl [2, 3, 4, 0] rfl)
              · have h62 : ¬ bbr N r = 0 := fun q9 => c_62 (by rw [ex5, pcn_bsm, ← hbb, q9]; exact Int32.le_refl _)
                have hx5 : x5 = nI (bbr N r) := by rw [ex5, pcn_bsm, ← hbb]
                refine lv_aload_n hx hb dX0_tellRows_65 rfl (lv_at hl 1 rfl) ?_
                refine lv_iload_n hx hb dX0_tellRows_66 rfl (lv_at hl 3 rfl) ?_
                refine lv_iload hx hb dX0_tellRows_67 (lv_at hl 0 rfl) ?_
                rw [ex3, hx5]
                refine c_callv (ci := 0) (q := (RX0, TX0, 1)) (κ := 14) (i := 0) (As := [.int (nI (nzr (bbr N) r)), .int (nI (bbr N r))]) (rest := []) ⟨hx, hb, hml, hown, hts⟩ (ctX0_addRow l D y ad u R qs nC nT hR (nzr (bbr N) r) (bbr N r) (cz (bbr N) r) (by omega) (Nat.pos_of_ne_zero h62) hb5 hiu (fun k n h9 => cz_0 _ _ _ _ h9)) (cwV 2 hts gX0_tellRows_X0_addRow rfl rfl rfl (by decide +kernel) ⟨Nat.le_of_ble_eq_true rfl, Nat.le_of_ble_eq_true rfl⟩) ((hR 14 (0)).mpr Nat.zero_lt_one) (fun _ _ _ => ⟨_, rfl⟩) rfl hE hK hP hD hS hA rfl hl.1 rfl (Nat.le_of_ble_eq_true rfl) dX0_tellRows_69 ⟨Nat.zero_le _, Nat.zero_le _⟩ (fun x69 H locs hq69 hP hD hS => ?_)
                obtain ⟨x3_2, ex3_2⟩ : ∃ z : Int32, z = x3 + 1 := ⟨_, rfl⟩
                refine lv_iinc (v := x3_2) (lv' := [(3, .int x3_2), (5, .int x5), (0, .ref (ad 14 0)), (1, .long bits), (4, .int x4)]) hx hb dX0_tellRows_72 hl (k := 3) rfl (by rw [ex3_2]; rfl) (by decide) rfl (fun ls hl => ?_)
                obtain ⟨x4_3, ex4_3⟩ : ∃ z : Int32, z = x4 + 1 := ⟨_, rfl⟩
                refine lv_iinc (v := x4_3) (lv' := [(4, .int x4_3), (3, .int x3_2), (5, .int x5), (0, .ref (ad 14 0)), (1, .long bits)]) hx hb dX0_tellRows_75 hl (k := 4) rfl (by rw [ex4_3]; rfl) (by decide) rfl (fun ls hl => ?_)
                refine lv_goto (tgt := 38) hx hb dX0_tellRows_78 (by decide) ?_
                exact ih_38 (r + 1) x69 _ _ (by omega) (by omega) (by rw [ex4_3, ex4]; exact nI_1 _) (by rw [ex3_2, ex3, nzr_s h62]; exact nI_1 _) ⟨hq69.1.1.trans hkl.1, hq69.1.2.trans hkl.2⟩ (fun k9 hk9 n9 hn9 => by rw [hq69.2 k9 hk9 n9 hn9, arw_cz h62]) _ _ hP hD hS _ (lv_sub hl [3, 4, 1, 0] rfl)
        exact lp_38 13 0 (cL u 16 0 0 1) _ _ (Nat.zero_le _) (by omega) rfl rfl ⟨hkl.1, hkl.2⟩ (fun k9 hk9 n9 hn9 => by rw [cL_r, cz]; by_cases h9 : k9 = 0 ∧ n9 = 0; rw [if_pos ⟨rfl, h9⟩, if_pos h9]; rfl; rw [if_neg (fun q => h9 q.2), if_neg h9, hzu k9 (by omega) n9 hn9]; rfl) _ _ hP hD hS _ (lv_sub hl [2, 3, 1, 0] rfl)
      · have hjn : j < 13 := by rw [ex3] at c_5; exact Nat.lt_succ_of_le (Nat.not_lt.mp (fun q9 => c_5 ((nI_ltI (a := 12) (by omega) (by omega)).mpr q9)))
        refine lv_aload_n hx hb dX0_tellRows_8 rfl (lv_at hl 0 rfl) ?_
        refine cg_X0_ways (i := 0) hx hb hts hin0 hown hK hP ((hR 14 (0)).mpr Nat.zero_lt_one) (by decide +kernel) dX0_tellRows_9 ?_
        refine lv_iload_n hx hb dX0_tellRows_12 rfl (lv_at hl 2 rfl) ?_
        rw [ex3]
        refine cl_ways ((show j < 13 from hjn)) hx hb hK hP ((hR 15 (0)).mpr Nat.zero_lt_one) dX0_tellRows_13 ?_
        refine lv_lconst (v := 0) hx hb dX0_tellRows_14 (by decide) ?_
        refine c_scallv (As := [.ref (ad 16 j), .long 0]) (rest := []) ⟨hx, hb, hml, hown, hts⟩ (ctJ7_fill_d0a16 l D y ad u R qs nC nT hR 16 j 61 0 ((hR 16 j).mpr (show j < 13 from hjn)) (fun _ _ _ => rfl) (by omega)) (va_cwS 2 hts gX0_tellRows_J7_fill_d0a16 rfl rfl rfl (by decide +kernel) ⟨Nat.le_of_ble_eq_true rfl, Nat.le_of_ble_eq_true rfl⟩) hE hK hP hD hS hA rfl hl.1 rfl (Nat.le_of_ble_eq_true rfl) dX0_tellRows_15 ⟨Nat.zero_le _, Nat.zero_le _⟩ (fun x15 H locs hq15 hP hD hS => ?_)
        obtain ⟨x3_4, ex3_4⟩ : ∃ z : Int32, z = x3 + 1 := ⟨_, rfl⟩
        refine lv_iinc (v := x3_4) (lv' := [(3, .int x3_4), (0, .ref (ad 14 0)), (1, .long bits)]) hx hb dX0_tellRows_18 hl (k := 2) rfl (by rw [ex3_4]; rfl) (by decide) rfl (fun ls hl => ?_)
        refine lv_goto (tgt := 2) hx hb dX0_tellRows_21 (by decide) ?_
        exact ih_2 (j + 1) x15 _ (by omega) (by omega) (by rw [ex3_4, ex3]; exact nI_1 _) (by rw [hq15]; exact ⟨hkl.1, hkl.2⟩) (fun k9 hk9 n9 hn9 => by rw [hq15]; show (if 16 = 16 ∧ k9 = j ∧ n9 < 61 then (0 : Int64) else u.2.1 16 k9 n9) = 0; by_cases h9 : k9 = j; rw [if_pos ⟨rfl, h9, hn9⟩]; rw [if_neg (fun q => h9 q.2.1)]; exact hzu k9 (by omega) n9 hn9) _ _ hP hD hS _ (lv_sub hl [1, 2, 0] rfl)
  exact lp_2 14 0 _ _ (Nat.zero_le _) (by omega) rfl ⟨rfl, rfl⟩ (fun k9 hk9 => absurd hk9 (Nat.not_lt_zero _)) _ _ hP hD hS _ (lv_sub hl [1, 2, 0] rfl)
def oth (z ww k : Nat) : Nat := if k ≤ ww then ch z (ww - k) else 0
def gS (W : Nat → Nat → Nat) (z ww mm : Nat) : Nat → Nat
  | 0 => 0
  | k + 1 => gS W z ww mm k + oth z ww k * smF (W k) mm (61 - mm)
theorem oth_w {z ww k : Nat} (hz : z ≤ 30) (hw : ww ≤ 30) (hk : k ≤ 30) : wtc z (nI ww - nI k) = lN (oth z ww k) := by
  unfold oth
  by_cases h : k ≤ ww
  · rw [if_pos h, pk_sub h, wtc_nI (by omega) (by omega)]
  · rw [if_neg h, wtc, if_neg (by rw [isC_neg (by omega) (pk_sneg (by omega) (by omega))]; decide)]; rfl
theorem oth_lt {z ww k : Nat} (hz : z ≤ 30) : oth z ww k < 2 ^ 31 := by
  unfold oth
  split
  · exact Nat.lt_of_le_of_lt (ch_le _ _) (Nat.lt_of_le_of_lt (Nat.pow_le_pow_right (by omega) hz) (by decide))
  · decide
theorem mx0 {m : Nat} (h : m < 2 ^ 31) : (if nI m < (0 : Int32) then 0 else nI m) = nI m := if_neg (fun q9 => by have := (nI_ltI (b := 0) (by omega) (by omega)).mp q9; omega)
set_option maxHeartbeats 4000000 in
set_option maxRecDepth 100000 in
/-- BribeCounter.waysWithAtLeast -/
theorem ctX0_waysWithAtLeast (l : Launch) (D : va_G) (y : Nat → ClassId) (ad : Nat → Nat → Nat) (x : cS) (R : List (Nat × Nat)) (qs : Nat → Nat × Nat) (nC nT : Nat) (hR : cHas R nC nT) (w : Int32) (bits : Int64) (Rr ww mm N : Nat) (hr30 : Rr ≤ 30) (hw : w = nI ww) (hww : ww ≤ 30) (hmm : mm < 2 ^ 31) (hbN : bits = lN N) (hN : N < 2 ^ 64) (hbr : nzr (bbr N) 12 ≤ Rr) : cMl l yX0_waysWithAtLeast wsX0_waysWithAtLeast ({ frames := 3, cells := 0, slots := 0, locals := 76 }) D y ad x R qs [.ref (ad 14 0), .int (nI Rr), .int w, .long bits, .int (nI mm)] (fun r x' => r = lN (gS (cz (bbr N) 12) (Rr - nzr (bbr N) 12) ww mm (nzr (bbr N) 12 + 1)) ∧ cKL x' x) := by
  refine cMl_of (cc := cX0_waysWithAtLeast) (maxL := 13) (ret := (some .long)) (by decide) rfl (Nat.le_of_ble_eq_true rfl) ?_
  intro p e s m below meth c A ls hat hAe hl
  obtain ⟨hx, hb, hr, hml, hts, hown, hlocks, hK, hP, hD, hA, hE⟩ := hat
  have hown : s.vm.findClass RX0 = some m.cls := hown
  have hin0 : ∀ w ∈ wsX00, w ∈ wsX0_waysWithAtLeast := fun _ h9 => List.mem_cons_of_mem _ (List.mem_append_right _ h9)
  have hl : lv_has ls 13 [(0, .ref (ad 14 0)), (1, .int (nI Rr)), (2, .int w), (3, .long bits), (5, .int (nI mm))] := hl
  have hS : va_S A s.heap s.heap [] := va_S.rf
  refine lv_aload_n hx hb dX0_waysWithAtLeast_0 rfl (lv_at hl 0 rfl) ?_
  refine lv_lload_n hx hb dX0_waysWithAtLeast_1 rfl (lv_at hl 3 rfl) ?_
  refine c_calli (ci := 0) (q := (RX0, TX0, 1)) (κ := 14) (i := 0) (As := [.long bits]) (rest := []) ⟨hx, hb, hml, hown, hts⟩ (ctX0_tellRows l D y ad x R qs nC nT hR bits N hbN hN) (cwV 1 hts gX0_waysWithAtLeast_X0_tellRows rfl rfl rfl (by decide +kernel) ⟨Nat.le_of_ble_eq_true rfl, Nat.le_of_ble_eq_true rfl⟩) ((hR 14 (0)).mpr Nat.zero_lt_one) (fun _ _ _ => ⟨_, rfl⟩) rfl hE hK hP hD hS hA rfl hl.1 rfl (Nat.le_of_ble_eq_true rfl) dX0_waysWithAtLeast_2 ⟨Nat.zero_le _, Nat.zero_le _⟩ (fun r2 xt H locs hqt hP hD hS => ?_)
  refine lv_istore (lv' := [(6, .int r2), (0, .ref (ad 14 0)), (1, .int (nI Rr)), (2, .int w), (3, .long bits), (5, .int (nI mm))]) hx hb dX0_waysWithAtLeast_5 hl (by decide) rfl (fun ls hl => ?_)
  have hx6 : r2 = nI (nzr (bbr N) 12) := hqt.1
  have hnz := nzr_le (bbr N) 12
  refine lv_lconst (v := 0) hx hb dX0_waysWithAtLeast_7 (by decide) ?_
  refine lv_lstore (lv' := [(7, .long 0), (6, .int r2), (0, .ref (ad 14 0)), (1, .int (nI Rr)), (2, .int w), (3, .long bits), (5, .int (nI mm))]) hx hb dX0_waysWithAtLeast_8 hl (by decide) rfl (fun ls hl => ?_)
  refine lv_iconst (v := 0) hx hb dX0_waysWithAtLeast_10 (by decide) ?_
  refine lv_istore (lv' := [(9, .int 0), (7, .long 0), (6, .int r2), (0, .ref (ad 14 0)), (1, .int (nI Rr)), (2, .int w), (3, .long bits), (5, .int (nI mm))]) hx hb dX0_waysWithAtLeast_11 hl (by decide) rfl (fun ls hl => ?_)
  have lp_13 : ∀ (n_13 : Nat) (k : Nat) (x7 : Int64) (x9 : Int32), (k ≤ nzr (bbr N) 12 + 1) → (nzr (bbr N) 12 + 2 ≤ k + n_13) → (x9 = nI k) → (x7 = lN (gS (cz (bbr N) 12) (Rr - nzr (bbr N) 12) ww mm k)) → ∀ (H : Heap) (locs : List Loc), va_P D vwCl (cW ad y xt R) H → va_D A (cW ad y xt R) → va_S A s.heap H locs → ∀ (ls : Array Slot), lv_has ls 13 [(0, .ref (ad 14 0)), (1, .int (nI Rr)), (2, .int w), (5, .int (nI mm)), (6, .int r2), (7, .long x7), (9, .int x9)] → W p l e (headSpec wsX0_waysWithAtLeast ({ frames := 3, cells := 0, slots := 0, locals := 76 })).room s m ([.ref (ad 14 0), .int (nI Rr), .int w, .long bits, .int (nI mm)] : List Value).toArray below meth c H locs 0 0 (MQ below (va_Ql (fun r x' => r = lN (gS (cz (bbr N) 12) (Rr - nzr (bbr N) 12) ww mm (nzr (bbr N) 12 + 1)) ∧ cKL x' x) (cEnd D y ad R s.heap.size) A) ([.ref (ad 14 0), .int (nI Rr), .int w, .long bits, .int (nI mm)] : List Value).toArray s 0 0 A) (F0 m 13 ls []) := by
    intro n_13
    induction n_13 with
    | zero =>
      intro k x7 x9 hk0 hf ex9 ex7
      exact absurd hf (by omega)
    | succ n_13 ih_13 =>
      intro k x7 x9 hk0 hf ex9 ex7 H locs hP hD hS ls hl
      refine lv_iload hx hb dX0_waysWithAtLeast_13 (lv_at hl 6 rfl) ?_
      refine lv_iload hx hb dX0_waysWithAtLeast_15 (lv_at hl 4 rfl) ?_
      refine lv_icmp_gt (tgt := 85) hx hb dX0_waysWithAtLeast_17 (by decide) (fun c_17 => ?_) (fun c_17 => ?_)
      · have hkn : k = nzr (bbr N) 12 + 1 := by rw [ex9, hx6] at c_17; have := (nI_ltI (by omega) (by omega)).mp c_17; omega
        refine lv_lload hx hb dX0_waysWithAtLeast_85 (lv_at hl 5 rfl) ?_
        exact c_retl hx hb hr hlocks hAe hK hP hD hS dX0_waysWithAtLeast_87 (⟨by rw [ex7, hkn], hqt.2.1⟩)
      · have hkn : k ≤ nzr (bbr N) 12 := by rw [ex9, hx6] at c_17; exact Nat.not_lt.mp (fun q9 => c_17 ((nI_ltI (by omega) (by omega)).mpr q9))
        refine lv_iload_n hx hb dX0_waysWithAtLeast_20 rfl (lv_at hl 1 rfl) ?_
        refine lv_iload hx hb dX0_waysWithAtLeast_21 (lv_at hl 4 rfl) ?_
        refine lv_isub hx hb dX0_waysWithAtLeast_23 ?_
        refine lv_iload_n hx hb dX0_waysWithAtLeast_24 rfl (lv_at hl 2 rfl) ?_
        refine lv_iload hx hb dX0_waysWithAtLeast_25 (lv_at hl 6 rfl) ?_
        refine lv_isub hx hb dX0_waysWithAtLeast_27 ?_
        rw [show nI Rr - r2 = nI (Rr - nzr (bbr N) 12) by rw [hx6, pk_sub hbr], show w - x9 = nI ww - nI k by rw [hw, ex9]]
        refine sn_calll (As := [.int (nI (Rr - nzr (bbr N) 12)), .int (nI ww - nI k)]) (rest := []) ⟨hx, hb, hml, hown, hts⟩ (ctX9_waysToChoose l (Rr - nzr (bbr N) 12) (nI ww - nI k) (by omega)) ⟨va_cnB 2 hts gX0_waysWithAtLeast_X9_waysToChoose_n26 rfl rfl rfl hE.1.2.1 (hts _ (by decide +kernel)) (by decide +kernel) ⟨Nat.le_of_ble_eq_true rfl, Nat.le_of_ble_eq_true rfl⟩, hts _ (by decide +kernel), trivial⟩ hP hS rfl hl.1 rfl (Nat.le_of_ble_eq_true rfl) dX0_waysWithAtLeast_28 ⟨Nat.zero_le _, Nat.zero_le _⟩ (fun H locs hP hS => ?_)
        refine lv_topl (fun x10 ex10 => ?_)
        refine lv_lstore (lv' := [(10, .long x10), (0, .ref (ad 14 0)), (1, .int (nI Rr)), (2, .int w), (5, .int (nI mm)), (6, .int r2), (7, .long x7), (9, .int x9)]) hx hb dX0_waysWithAtLeast_31 hl (by decide) rfl (fun ls hl => ?_)
        rw [oth_w (by omega) hww (by omega)] at ex10
        have hOl : oth (Rr - nzr (bbr N) 12) ww k < 2 ^ 31 := oth_lt (by omega)
        have j_79 : ∀ (x7j : Int64), (x7j = lN (gS (cz (bbr N) 12) (Rr - nzr (bbr N) 12) ww mm (k + 1))) → ∀ (H : Heap) (locs : List Loc), va_P D vwCl (cW ad y xt R) H → va_D A (cW ad y xt R) → va_S A s.heap H locs → ∀ (ls : Array Slot), lv_has ls 13 [(0, .ref (ad 14 0)), (1, .int (nI Rr)), (2, .int w), (5, .int (nI mm)), (6, .int r2), (7, .long x7j), (9, .int x9)] → W p l e (headSpec wsX0_waysWithAtLeast ({ frames := 3, cells := 0, slots := 0, locals := 76 })).room s m ([.ref (ad 14 0), .int (nI Rr), .int w, .long bits, .int (nI mm)] : List Value).toArray below meth c H locs 0 0 (MQ below (va_Ql (fun r x' => r = lN (gS (cz (bbr N) 12) (Rr - nzr (bbr N) 12) ww mm (nzr (bbr N) 12 + 1)) ∧ cKL x' x) (cEnd D y ad R s.heap.size) A) ([.ref (ad 14 0), .int (nI Rr), .int w, .long bits, .int (nI mm)] : List Value).toArray s 0 0 A) (F0 m 79 ls []) := by
          intro x7j e7j H locs hP hD hS ls hl
          obtain ⟨x9_1, ex9_1⟩ : ∃ z : Int32, z = x9 + 1 := ⟨_, rfl⟩
          refine lv_iinc (v := x9_1) (lv' := [(9, .int x9_1), (0, .ref (ad 14 0)), (1, .int (nI Rr)), (2, .int w), (5, .int (nI mm)), (6, .int r2), (7, .long x7j)]) hx hb dX0_waysWithAtLeast_79 hl (k := 6) rfl (by rw [ex9_1]; rfl) (by decide) rfl (fun ls hl => ?_)
          refine lv_goto (tgt := 13) hx hb dX0_waysWithAtLeast_82 (by decide) ?_
          exact ih_13 (k + 1) _ _ (by omega) (by omega) (by rw [ex9_1, ex9]; exact nI_1 _) e7j _ _ hP hD hS _ (lv_sub hl [1, 2, 3, 4, 5, 6, 0] rfl)
        refine lv_iload hx hb dX0_waysWithAtLeast_33 (lv_at hl 4 rfl) ?_
        refine lv_iconst (v := 0) hx hb dX0_waysWithAtLeast_35 (by decide) ?_
        refine va_mmax hx hb (by rw [hml]; exact hl.1.symm) hown (hts _ (by decide +kernel)) (hts _ (by decide +kernel)) (hts _ (by decide +kernel)) (hts _ (by decide +kernel)) (Nat.le_of_ble_eq_true rfl) (Nat.le_of_ble_eq_true rfl) (Nat.zero_le _) (Nat.zero_le _) dX0_waysWithAtLeast_36 ?_
        rw [mx0 hmm]
        refine lv_topi (fun x12_2 ex12_2 => ?_)
        refine lv_istore (lv' := [(12, .int x12_2), (10, .long x10), (0, .ref (ad 14 0)), (1, .int (nI Rr)), (2, .int w), (5, .int (nI mm)), (6, .int r2), (7, .long x7), (9, .int x9)]) hx hb dX0_waysWithAtLeast_39 hl (by decide) rfl (fun ls hl => ?_)
        have lp_41 : ∀ (n_41 : Nat) (d : Nat) (x7 : Int64) (x12 : Int32), (d ≤ 61 - mm) → (62 ≤ d + n_41) → (x12 = nI (mm + d)) → (x7 = lN (gS (cz (bbr N) 12) (Rr - nzr (bbr N) 12) ww mm k + oth (Rr - nzr (bbr N) 12) ww k * smF (cz (bbr N) 12 k) mm d)) → ∀ (H : Heap) (locs : List Loc), va_P D vwCl (cW ad y xt R) H → va_D A (cW ad y xt R) → va_S A s.heap H locs → ∀ (ls : Array Slot), lv_has ls 13 [(0, .ref (ad 14 0)), (1, .int (nI Rr)), (2, .int w), (5, .int (nI mm)), (6, .int r2), (7, .long x7), (9, .int x9), (10, .long x10), (12, .int x12)] → W p l e (headSpec wsX0_waysWithAtLeast ({ frames := 3, cells := 0, slots := 0, locals := 76 })).room s m ([.ref (ad 14 0), .int (nI Rr), .int w, .long bits, .int (nI mm)] : List Value).toArray below meth c H locs 0 0 (MQ below (va_Ql (fun r x' => r = lN (gS (cz (bbr N) 12) (Rr - nzr (bbr N) 12) ww mm (nzr (bbr N) 12 + 1)) ∧ cKL x' x) (cEnd D y ad R s.heap.size) A) ([.ref (ad 14 0), .int (nI Rr), .int w, .long bits, .int (nI mm)] : List Value).toArray s 0 0 A) (F0 m 41 ls []) := by
          intro n_41
          induction n_41 with
          | zero =>
            intro d x7 x12 hd0 hf2 ex12 e7
            exact absurd hf2 (by omega)
          | succ n_41 ih_41 =>
            intro d x7 x12 hd0 hf2 ex12 e7 H locs hP hD hS ls hl
            refine lv_iload hx hb dX0_waysWithAtLeast_41 (lv_at hl 8 rfl) ?_
            refine lv_bipush (v := 60) hx hb dX0_waysWithAtLeast_43 (by decide) ?_
            refine lv_icmp_gt (tgt := 79) hx hb dX0_waysWithAtLeast_45 (by decide) (fun c_45 => ?_) (fun c_45 => ?_)
            · have hd61 : d = 61 - mm := by rw [ex12] at c_45; have := (nI_ltI (a := 60) (by omega) (by omega)).mp c_45; omega
              exact j_79 _ (by rw [e7, hd61, gS]) _ _ hP hD hS _ (lv_sub hl [0, 1, 2, 3, 4, 5, 6] rfl)
            · have hd61 : mm + d < 61 := by rw [ex12] at c_45; exact Nat.lt_succ_of_le (Nat.not_lt.mp (fun q9 => c_45 ((nI_ltI (a := 60) (by omega) (by omega)).mpr q9)))
              have hc12 : x12.toNatClampNeg = mm + d := by rw [ex12]; exact nI_clamp (by omega)
              refine lv_lload hx hb dX0_waysWithAtLeast_48 (lv_at hl 7 rfl) ?_
              refine lv_lconst (v := 0) hx hb dX0_waysWithAtLeast_50 (by decide) ?_
              refine W.lcmp hx hb dX0_waysWithAtLeast_51 ?_
              refine lv_if_le (tgt := 79) hx hb dX0_waysWithAtLeast_52 (by decide) (fun c_52 => ?_) (fun c_52 => ?_)
              · have hO0 : oth (Rr - nzr (bbr N) 12) ww k = 0 := by have h9 := (lg_cmp_le _ _).mp c_52; rw [ex10] at h9; have := (pk_lLE (b := 0) (by omega) (by omega)).mp h9; omega
                exact j_79 _ (by rw [e7, gS, hO0, Nat.zero_mul, Nat.zero_mul]) _ _ hP hD hS _ (lv_sub hl [0, 1, 2, 3, 4, 5, 6] rfl)
              · refine lv_lload hx hb dX0_waysWithAtLeast_55 (lv_at hl 5 rfl) ?_
                refine lv_aload_n hx hb dX0_waysWithAtLeast_57 rfl (lv_at hl 0 rfl) ?_
                refine cg_X0_ways (i := 0) hx hb hts hin0 hown hK hP ((hR 14 (0)).mpr Nat.zero_lt_one) (by decide +kernel) dX0_waysWithAtLeast_58 ?_
                refine lv_iload hx hb dX0_waysWithAtLeast_61 (lv_at hl 6 rfl) ?_
                rw [ex9]
                refine cl_ways ((show k < 13 by omega)) hx hb hK hP ((hR 15 (0)).mpr Nat.zero_lt_one) dX0_waysWithAtLeast_63 ?_
                refine lv_iload hx hb dX0_waysWithAtLeast_64 (lv_at hl 8 rfl) ?_
                refine cl_long 16 (k) 61 hx hb hK hP ((hR 16 (k)).mpr (show k < 13 by omega)) (fun _ _ _ => rfl) (by rw [ex12]; exact vp_in_nI (by omega) (by omega)) dX0_waysWithAtLeast_66 ?_
                refine lv_lload hx hb dX0_waysWithAtLeast_67 (lv_at hl 7 rfl) ?_
                refine lv_lmul hx hb dX0_waysWithAtLeast_69 ?_
                refine lv_ladd hx hb dX0_waysWithAtLeast_70 ?_
                refine lv_topl (fun x7_3 ex7_3 => ?_)
                refine lv_lstore (lv' := [(7, .long x7_3), (0, .ref (ad 14 0)), (1, .int (nI Rr)), (2, .int w), (5, .int (nI mm)), (6, .int r2), (9, .int x9), (10, .long x10), (12, .int x12)]) hx hb dX0_waysWithAtLeast_71 hl (by decide) rfl (fun ls hl => ?_)
                obtain ⟨x12_4, ex12_4⟩ : ∃ z : Int32, z = x12 + 1 := ⟨_, rfl⟩
                refine lv_iinc (v := x12_4) (lv' := [(12, .int x12_4), (7, .long x7_3), (0, .ref (ad 14 0)), (1, .int (nI Rr)), (2, .int w), (5, .int (nI mm)), (6, .int r2), (9, .int x9), (10, .long x10)]) hx hb dX0_waysWithAtLeast_73 hl (k := 8) rfl (by rw [ex12_4]; rfl) (by decide) rfl (fun ls hl => ?_)
                refine lv_goto (tgt := 41) hx hb dX0_waysWithAtLeast_76 (by decide) ?_
                exact ih_41 (d + 1) _ _ (by omega) (by omega) (by rw [ex12_4, ex12]; exact nI_1 _) (by rw [ex7_3, hc12, e7, hqt.2.2 k (by omega) (mm + d) (by omega), ex10, lN_mul, lN_add, smF, Nat.mul_add, Nat.mul_comm (cz (bbr N) 12 k (mm + d)), Nat.add_assoc]) _ _ hP hD hS _ (lv_sub hl [2, 3, 4, 5, 6, 1, 7, 8, 0] rfl)
        exact lp_41 62 0 _ _ (Nat.zero_le _) (by omega) (by rw [ex12_2]; rfl) (by rw [ex7]; rfl) _ _ hP hD hS _ (lv_sub hl [2, 3, 4, 5, 6, 7, 8, 1, 0] rfl)
  exact lp_13 (nzr (bbr N) 12 + 2) 0 _ _ (Nat.zero_le _) (by omega) rfl rfl _ _ hP hD hS _ (lv_sub hl [3, 4, 5, 7, 2, 1, 0] rfl)
