/-! the landed program: filled rows; Suit -/
def cF (x : cS) (κ i : Nat) (v : Int32) (n : Nat) : cS := (fun a b c => if a = κ ∧ b = i ∧ c < n then v else x.1 a b c, x.2)
theorem cF_0 (x : cS) (κ i : Nat) (v : Int32) : cF x κ i v 0 = x := by
  refine Prod.ext ?_ rfl
  funext a b c
  simp [cF]
theorem cF_s (x : cS) (κ i : Nat) (v : Int32) (n : Nat) : cI (cF x κ i v n) κ i n v = cF x κ i v (n + 1) := by
  refine Prod.ext ?_ rfl
  funext a b c
  simp only [cI, up3, cF]
  by_cases h1 : a = κ <;> by_cases h2 : b = i <;> simp only [h1, h2, true_and, false_and, if_false]
  by_cases h3 : c = n
  · simp [h3]
  · by_cases h4 : c < n
    · simp [h3, h4, Nat.lt_succ_of_lt h4]
    · simp [h3, h4, show ¬ c < n + 1 by omega]
theorem cF_r (x : cS) (κ i : Nat) (v : Int32) (n a b c : Nat) : (cF x κ i v n).1 a b c = if a = κ ∧ b = i ∧ c < n then v else x.1 a b c := rfl
theorem cF_l (x : cS) (κ i : Nat) (v : Int32) (n : Nat) : (cF x κ i v n).2 = x.2 := rfl
def cFL (x : cS) (κ i : Nat) (v : Int64) (n : Nat) : cS := (x.1, fun a b c => if a = κ ∧ b = i ∧ c < n then v else x.2.1 a b c, x.2.2)
theorem cFL_0 (x : cS) (κ i : Nat) (v : Int64) : cFL x κ i v 0 = x := by
  refine Prod.ext rfl (Prod.ext ?_ rfl)
  funext a b c
  simp [cFL]
theorem cFL_s (x : cS) (κ i : Nat) (v : Int64) (n : Nat) : cL (cFL x κ i v n) κ i n v = cFL x κ i v (n + 1) := by
  refine Prod.ext rfl (Prod.ext ?_ rfl)
  funext a b c
  simp only [cL, up3, cFL]
  by_cases h1 : a = κ <;> by_cases h2 : b = i <;> simp only [h1, h2, true_and, false_and, if_false]
  by_cases h3 : c = n
  · simp [h3]
  · by_cases h4 : c < n
    · simp [h3, h4, Nat.lt_succ_of_lt h4]
    · simp [h3, h4, show ¬ c < n + 1 by omega]
set_option maxHeartbeats 4000000 in
set_option maxRecDepth 100000 in
/-- Arrays.fill -/
theorem ctJ7_fill_53178 (l : Launch) (D : va_G) (y : Nat → ClassId) (ad : Nat → Nat → Nat) (x : cS) (R : List (Nat × Nat)) (qs : Nat → Nat × Nat) (nC nT : Nat) (hR : cHas R nC nT) (κ i n : Nat) (v : Int32) (hm : (κ, i) ∈ R) (he : ∀ f g o, cE ad y κ i f g o = .inl (y 1, n, .inl f)) (hn : n < 2 ^ 31) : cMv l yJ7_fill_53178 wsJ7_fill_53178 ({ frames := 0, cells := 0, slots := 0, locals := 0 }) D y ad x R qs [.ref (ad κ i), .int v] (fun x' => x' = cF x κ i v n) := by
  refine cMv_of (cc := cJ7_fill_53178) (maxL := 4) (ret := none) (by decide) rfl (Nat.le_of_ble_eq_true rfl) ?_
  intro p e s m below meth c A ls hat hAe hl
  obtain ⟨hx, hb, hr, hml, hts, hown, hlocks, hK, hP, hD, hA, hE⟩ := hat
  have hown : s.vm.findClass RJ7 = some m.cls := hown
  have hl : lv_has ls 4 [(0, .ref (ad κ i)), (1, .int v)] := hl
  have hS : va_S A s.heap s.heap [] := va_S.rf
  refine lv_iconst (v := 0) hx hb dJ7_fill_53178_0 (by decide) ?_
  refine lv_istore_n (lv' := [(2, .int 0), (0, .ref (ad κ i)), (1, .int v)]) hx hb dJ7_fill_53178_1 rfl hl (by decide) rfl (fun ls hl => ?_)
  refine lv_aload_n hx hb dJ7_fill_53178_2 rfl (lv_at hl 1 rfl) ?_
  refine c_len (t0 := 1) κ (i) hx hb hK hP hm (he _ _ _) rfl dJ7_fill_53178_3 ?_
  refine lv_topi (fun xn exn => ?_)
  refine lv_istore_n (lv' := [(3, .int xn), (2, .int 0), (0, .ref (ad κ i)), (1, .int v)]) hx hb dJ7_fill_53178_4 rfl hl (by decide) rfl (fun ls hl => ?_)
  have lp_5 : ∀ (n_5 : Nat) (j : Nat) (u : cS) (x2 : Int32), (j ≤ n) → (n + 1 ≤ j + n_5) → (x2 = nI j) → (u = cF x κ i v j) → ∀ (H : Heap) (locs : List Loc), va_P D vwCl (cW ad y u R) H → va_D A (cW ad y u R) → va_S A s.heap H locs → ∀ (ls : Array Slot), lv_has ls 4 [(0, .ref (ad κ i)), (1, .int v), (2, .int x2), (3, .int xn)] → W p l e (headSpec wsJ7_fill_53178 ({ frames := 0, cells := 0, slots := 0, locals := 0 })).room s m ([.ref (ad κ i), .int v] : List Value).toArray below meth c H locs 0 0 (MQ below (va_Qv (fun x' => x' = cF x κ i v n) (cEnd D y ad R s.heap.size) A) ([.ref (ad κ i), .int v] : List Value).toArray s 0 0 A) (F0 m 5 ls []) := by
    intro n_5
    induction n_5 with
    | zero =>
      intro j u x2 hj hf ex2 hu
      exact absurd hf (by omega)
    | succ n_5 ih_5 =>
      intro j u x2 hj hf ex2 hu H locs hP hD hS ls hl
      refine lv_iload_n hx hb dJ7_fill_53178_5 rfl (lv_at hl 2 rfl) ?_
      refine lv_iload_n hx hb dJ7_fill_53178_6 rfl (lv_at hl 3 rfl) ?_
      refine lv_icmp_ge (tgt := 20) hx hb dJ7_fill_53178_7 (by decide) (fun c_7 => ?_) (fun c_7 => ?_)
      · have hjn : j = n := by rw [exn, ex2] at c_7; have := (nI_leI (by omega) (by omega)).mp c_7; omega
        exact c_retv hx hb hr hlocks hAe hK hP hD hS dJ7_fill_53178_20 (by rw [hu, hjn])
      · have hjn : j < n := by rw [exn, ex2] at c_7; exact Nat.not_le.mp (fun q9 => c_7 (nI_le q9 (by omega)))
        refine lv_aload_n hx hb dJ7_fill_53178_10 rfl (lv_at hl 0 rfl) ?_
        refine lv_iload_n hx hb dJ7_fill_53178_11 rfl (lv_at hl 2 rfl) ?_
        refine lv_iload_n hx hb dJ7_fill_53178_12 rfl (lv_at hl 1 rfl) ?_
        refine cs_int κ (i) n hx hb hK hP hD hS hm he (by rw [ex2]; exact vp_in_nI (by omega) (by omega)) dJ7_fill_53178_13 (fun H locs hP hD hS => ?_)
        rw [ex2, nI_clamp (by omega)] at hP hD
        obtain ⟨x2_1, ex2_1⟩ : ∃ z : Int32, z = x2 + 1 := ⟨_, rfl⟩
        refine lv_iinc (v := x2_1) (lv' := [(2, .int x2_1), (0, .ref (ad κ i)), (1, .int v), (3, .int xn)]) hx hb dJ7_fill_53178_14 hl (k := 2) rfl (by rw [ex2_1]; rfl) (by decide) rfl (fun ls hl => ?_)
        refine lv_goto (tgt := 5) hx hb dJ7_fill_53178_17 (by decide) ?_
        exact ih_5 (j + 1) _ _ (by omega) (by omega) (by rw [ex2_1, ex2]; exact nI_1 _) (by rw [hu, cF_s]) _ _ hP hD hS _ (lv_sub hl [1, 2, 0, 3] rfl)
  exact lp_5 (n + 1) 0 _ _ (Nat.zero_le _) (by omega) rfl (cF_0 _ _ _ _).symm _ _ hP hD hS _ (lv_sub hl [2, 3, 1, 0] rfl)
set_option maxHeartbeats 4000000 in
set_option maxRecDepth 100000 in
/-- Arrays.fill -/
theorem ctJ7_fill_d0a16 (l : Launch) (D : va_G) (y : Nat → ClassId) (ad : Nat → Nat → Nat) (x : cS) (R : List (Nat × Nat)) (qs : Nat → Nat × Nat) (nC nT : Nat) (hR : cHas R nC nT) (κ i n : Nat) (v : Int64) (hm : (κ, i) ∈ R) (he : ∀ f g o, cE ad y κ i f g o = .inl (y 3, n, .inr (.inl g))) (hn : n < 2 ^ 31) : cMv l yJ7_fill_d0a16 wsJ7_fill_d0a16 ({ frames := 0, cells := 0, slots := 0, locals := 0 }) D y ad x R qs [.ref (ad κ i), .long v] (fun x' => x' = cFL x κ i v n) := by
  refine cMv_of (cc := cJ7_fill_d0a16) (maxL := 5) (ret := none) (by decide) rfl (Nat.le_of_ble_eq_true rfl) ?_
  intro p e s m below meth c A ls hat hAe hl
  obtain ⟨hx, hb, hr, hml, hts, hown, hlocks, hK, hP, hD, hA, hE⟩ := hat
  have hown : s.vm.findClass RJ7 = some m.cls := hown
  have hl : lv_has ls 5 [(0, .ref (ad κ i)), (1, .long v)] := hl
  have hS : va_S A s.heap s.heap [] := va_S.rf
  refine lv_iconst (v := 0) hx hb dJ7_fill_d0a16_0 (by decide) ?_
  refine lv_istore_n (lv' := [(3, .int 0), (0, .ref (ad κ i)), (1, .long v)]) hx hb dJ7_fill_d0a16_1 rfl hl (by decide) rfl (fun ls hl => ?_)
  refine lv_aload_n hx hb dJ7_fill_d0a16_2 rfl (lv_at hl 1 rfl) ?_
  refine c_len (t0 := 3) κ (i) hx hb hK hP hm (he _ _ _) rfl dJ7_fill_d0a16_3 ?_
  refine lv_topi (fun xn exn => ?_)
  refine lv_istore (lv' := [(4, .int xn), (3, .int 0), (0, .ref (ad κ i)), (1, .long v)]) hx hb dJ7_fill_d0a16_4 hl (by decide) rfl (fun ls hl => ?_)
  have lp_6 : ∀ (n_6 : Nat) (j : Nat) (u : cS) (x2 : Int32), (j ≤ n) → (n + 1 ≤ j + n_6) → (x2 = nI j) → (u = cFL x κ i v j) → ∀ (H : Heap) (locs : List Loc), va_P D vwCl (cW ad y u R) H → va_D A (cW ad y u R) → va_S A s.heap H locs → ∀ (ls : Array Slot), lv_has ls 5 [(0, .ref (ad κ i)), (1, .long v), (3, .int x2), (4, .int xn)] → W p l e (headSpec wsJ7_fill_d0a16 ({ frames := 0, cells := 0, slots := 0, locals := 0 })).room s m ([.ref (ad κ i), .long v] : List Value).toArray below meth c H locs 0 0 (MQ below (va_Qv (fun x' => x' = cFL x κ i v n) (cEnd D y ad R s.heap.size) A) ([.ref (ad κ i), .long v] : List Value).toArray s 0 0 A) (F0 m 6 ls []) := by
    intro n_6
    induction n_6 with
    | zero =>
      intro j u x2 hj hf ex2 hu
      exact absurd hf (by omega)
    | succ n_6 ih_6 =>
      intro j u x2 hj hf ex2 hu H locs hP hD hS ls hl
      refine lv_iload_n hx hb dJ7_fill_d0a16_6 rfl (lv_at hl 2 rfl) ?_
      refine lv_iload hx hb dJ7_fill_d0a16_7 (lv_at hl 3 rfl) ?_
      refine lv_icmp_ge (tgt := 22) hx hb dJ7_fill_d0a16_9 (by decide) (fun c_9 => ?_) (fun c_9 => ?_)
      · have hjn : j = n := by rw [exn, ex2] at c_9; have := (nI_leI (by omega) (by omega)).mp c_9; omega
        exact c_retv hx hb hr hlocks hAe hK hP hD hS dJ7_fill_d0a16_22 (by rw [hu, hjn])
      · have hjn : j < n := by rw [exn, ex2] at c_9; exact Nat.not_le.mp (fun q9 => c_9 (nI_le q9 (by omega)))
        refine lv_aload_n hx hb dJ7_fill_d0a16_12 rfl (lv_at hl 0 rfl) ?_
        refine lv_iload_n hx hb dJ7_fill_d0a16_13 rfl (lv_at hl 2 rfl) ?_
        refine lv_lload_n hx hb dJ7_fill_d0a16_14 rfl (lv_at hl 1 rfl) ?_
        refine cs_long κ (i) n hx hb hK hP hD hS hm he (by rw [ex2]; exact vp_in_nI (by omega) (by omega)) dJ7_fill_d0a16_15 (fun H locs hP hD hS => ?_)
        rw [ex2, nI_clamp (by omega)] at hP hD
        obtain ⟨x3_1, ex3_1⟩ : ∃ z : Int32, z = x2 + 1 := ⟨_, rfl⟩
        refine lv_iinc (v := x3_1) (lv' := [(3, .int x3_1), (0, .ref (ad κ i)), (1, .long v), (4, .int xn)]) hx hb dJ7_fill_d0a16_16 hl (k := 2) rfl (by rw [ex3_1]; rfl) (by decide) rfl (fun ls hl => ?_)
        refine lv_goto (tgt := 6) hx hb dJ7_fill_d0a16_19 (by decide) ?_
        exact ih_6 (j + 1) _ _ (by omega) (by omega) (by rw [ex3_1, ex2]; exact nI_1 _) (by rw [hu, cFL_s]) _ _ hP hD hS _ (lv_sub hl [1, 2, 0, 3] rfl)
  exact lp_6 (n + 1) 0 _ _ (Nat.zero_le _) (by omega) rfl (cFL_0 _ _ _ _).symm _ _ hP hD hS _ (lv_sub hl [2, 3, 1, 0] rfl)
theorem min25 {s9 : Int32} (h : ¬ 25 < s9) : (if (25 : Int32) < s9 then 25 else s9) = s9 := if_neg h
def cPrep (x : cS) (k : Nat) (sz mn : Int32) : cS := cForg (cI (cI (cI (cF (cF (cF (cI x 20 k 5 sz) 21 k (-1) 25) 22 k 0 25) 23 k mn 2) 20 k 10 0) 20 k 11 0) 20 k 12 0) k
set_option maxHeartbeats 4000000 in
set_option maxRecDepth 100000 in
/-- Suit.prepare -/
theorem ctX7_prepare (l : Launch) (D : va_G) (y : Nat → ClassId) (ad : Nat → Nat → Nat) (x : cS) (R : List (Nat × Nat)) (qs : Nat → Nat × Nat) (nC nT : Nat) (hR : cHas R nC nT) (k : Nat) (s9 mn : Int32) (hk5 : k < 5) (hz : ¬ 25 < s9) : cMv l yX7_prepare wsX7_prepare ({ frames := 1, cells := 0, slots := 0, locals := 27 }) D y ad x R qs [.ref (ad 20 k), .int s9, .int mn] (fun x' => x' = cPrep x k s9 mn) := by
  refine cMv_of (cc := cX7_prepare) (maxL := 4) (ret := none) (by decide) rfl (Nat.le_of_ble_eq_true rfl) ?_
  intro p e s m below meth c A ls hat hAe hl
  obtain ⟨hx, hb, hr, hml, hts, hown, hlocks, hK, hP, hD, hA, hE⟩ := hat
  have hown : s.vm.findClass RX7 = some m.cls := hown
  have hin7 : ∀ w ∈ wsX70, w ∈ wsX7_prepare := fun _ h9 => List.mem_cons_of_mem _ (List.mem_append_right _ h9)
  have hl : lv_has ls 4 [(0, .ref (ad 20 k)), (1, .int s9), (2, .int mn)] := hl
  have hS : va_S A s.heap s.heap [] := va_S.rf
  refine lv_aload_n hx hb dX7_prepare_0 rfl (lv_at hl 0 rfl) ?_
  refine lv_iload_n hx hb dX7_prepare_1 rfl (lv_at hl 1 rfl) ?_
  refine lv_bipush (v := 25) hx hb dX7_prepare_2 (by decide) ?_
  refine va_mmin hx hb (by rw [hml]; exact hl.1.symm) hown (hts _ (by decide +kernel)) (hts _ (by decide +kernel)) (hts _ (by decide +kernel)) (hts _ (by decide +kernel)) (Nat.le_of_ble_eq_true rfl) (Nat.le_of_ble_eq_true rfl) (Nat.zero_le _) (Nat.zero_le _) dX7_prepare_4 ?_
  rw [min25 hz]
  refine cp_X7_seats (i := k) hx hb hts hin7 hown hK hP hD hS ((hR 20 (k)).mpr hk5) (by decide +kernel) dX7_prepare_7 (fun H locs hP hD hS => ?_)
  refine lv_aload_n hx hb dX7_prepare_10 rfl (lv_at hl 0 rfl) ?_
  refine cg_X7_discs (i := k) hx hb hts hin7 hown hK hP ((hR 20 (k)).mpr hk5) (by decide +kernel) dX7_prepare_11 ?_
  refine lv_iconst (v := (-1)) hx hb dX7_prepare_14 (by decide) ?_
  refine c_scallv (As := [.ref (ad 21 k), .int (-1)]) (rest := []) ⟨hx, hb, hml, hown, hts⟩ (ctJ7_fill_53178 l D y ad _ R qs nC nT hR 21 k 25 (-1) ((hR 21 k).mpr hk5) (fun _ _ _ => rfl) (by omega)) (va_cwS 2 hts gX7_prepare_J7_fill_53178 rfl rfl rfl (by decide +kernel) ⟨Nat.le_of_ble_eq_true rfl, Nat.le_of_ble_eq_true rfl⟩) hE hK hP hD hS hA rfl hl.1 rfl (Nat.le_of_ble_eq_true rfl) dX7_prepare_15 ⟨Nat.zero_le _, Nat.zero_le _⟩ (fun x15 H locs h15 hP hD hS => ?_)
  refine lv_iconst (v := 0) hx hb dX7_prepare_18 (by decide) ?_
  refine lv_istore_n (lv' := [(3, .int 0), (0, .ref (ad 20 k)), (1, .int s9), (2, .int mn)]) hx hb dX7_prepare_19 rfl hl (by decide) rfl (fun ls hl => ?_)
  have lp_20 : ∀ (n_20 : Nat) (j : Nat) (u : cS) (x3 : Int32), (j ≤ 25) → (25 + 1 ≤ j + n_20) → (x3 = nI j) → (u = cF x15 22 k 0 j) → ∀ (H : Heap) (locs : List Loc), va_P D vwCl (cW ad y u R) H → va_D A (cW ad y u R) → va_S A s.heap H locs → ∀ (ls : Array Slot), lv_has ls 4 [(0, .ref (ad 20 k)), (1, .int s9), (2, .int mn), (3, .int x3)] → W p l e (headSpec wsX7_prepare ({ frames := 1, cells := 0, slots := 0, locals := 27 })).room s m ([.ref (ad 20 k), .int s9, .int mn] : List Value).toArray below meth c H locs 0 0 (MQ below (va_Qv (fun x' => x' = cPrep x k s9 mn) (cEnd D y ad R s.heap.size) A) ([.ref (ad 20 k), .int s9, .int mn] : List Value).toArray s 0 0 A) (F0 m 20 ls []) := by
    intro n_20
    induction n_20 with
    | zero =>
      intro j u x3 hj hf ex3 hu
      exact absurd hf (by omega)
    | succ n_20 ih_20 =>
      intro j u x3 hj hf ex3 hu H locs hP hD hS ls hl
      refine lv_iload_n hx hb dX7_prepare_20 rfl (lv_at hl 3 rfl) ?_
      refine lv_bipush (v := 25) hx hb dX7_prepare_21 (by decide) ?_
      refine lv_icmp_ge (tgt := 39) hx hb dX7_prepare_23 (by decide) (fun c_23 => ?_) (fun c_23 => ?_)
      · have hjn : j = 25 := by rw [ex3] at c_23; have := (nI_leI (a := 25) (by omega) (by omega)).mp c_23; omega
        refine lv_aload_n hx hb dX7_prepare_39 rfl (lv_at hl 0 rfl) ?_
        refine cg_X7_water (i := k) hx hb hts hin7 hown hK hP ((hR 20 (k)).mpr hk5) (by decide +kernel) dX7_prepare_40 ?_
        refine lv_iload_n hx hb dX7_prepare_43 rfl (lv_at hl 2 rfl) ?_
        refine c_scallv (As := [.ref (ad 23 k), .int mn]) (rest := []) ⟨hx, hb, hml, hown, hts⟩ (ctJ7_fill_53178 l D y ad _ R qs nC nT hR 23 k 2 (mn) ((hR 23 k).mpr hk5) (fun _ _ _ => rfl) (by omega)) (va_cwS 2 hts gX7_prepare_J7_fill_53178 rfl rfl rfl (by decide +kernel) ⟨Nat.le_of_ble_eq_true rfl, Nat.le_of_ble_eq_true rfl⟩) hE hK hP hD hS hA rfl hl.1 rfl (Nat.le_of_ble_eq_true rfl) dX7_prepare_44 ⟨Nat.zero_le _, Nat.zero_le _⟩ (fun x44 H locs h44 hP hD hS => ?_)
        refine lv_aload_n hx hb dX7_prepare_47 rfl (lv_at hl 0 rfl) ?_
        refine lv_iconst (v := 0) hx hb dX7_prepare_48 (by decide) ?_
        refine cp_X7_accuserSpoke (i := k) hx hb hts hin7 hown hK hP hD hS ((hR 20 (k)).mpr hk5) (by decide) (by decide +kernel) dX7_prepare_49 (fun H locs hP hD hS => ?_)
        refine lv_aload_n hx hb dX7_prepare_52 rfl (lv_at hl 0 rfl) ?_
        refine lv_iconst (v := 0) hx hb dX7_prepare_53 (by decide) ?_
        refine cp_X7_witnessHeard (i := k) hx hb hts hin7 hown hK hP hD hS ((hR 20 (k)).mpr hk5) (by decide) (by decide +kernel) dX7_prepare_54 (fun H locs hP hD hS => ?_)
        refine lv_aload_n hx hb dX7_prepare_57 rfl (lv_at hl 0 rfl) ?_
        refine lv_iconst (v := 0) hx hb dX7_prepare_58 (by decide) ?_
        refine cp_X7_discTold (i := k) hx hb hts hin7 hown hK hP hD hS ((hR 20 (k)).mpr hk5) (by decide) (by decide +kernel) dX7_prepare_59 (fun H locs hP hD hS => ?_)
        refine lv_aload_n hx hb dX7_prepare_62 rfl (lv_at hl 0 rfl) ?_
        refine c_callv (ci := 7) (q := (RX7, TX7, 16)) (κ := 20) (i := k) (As := []) (rest := []) ⟨hx, hb, hml, hown, hts⟩ (ctX7_forgetVerdict l D y ad _ R qs nC nT hR k hk5) (cwV 0 hts gX7_prepare_X7_forgetVerdict rfl rfl rfl (by decide +kernel) ⟨Nat.le_of_ble_eq_true rfl, Nat.le_of_ble_eq_true rfl⟩) ((hR 20 (k)).mpr hk5) (fun _ _ _ => ⟨_, rfl⟩) rfl hE hK hP hD hS hA rfl hl.1 rfl (Nat.le_of_ble_eq_true rfl) dX7_prepare_63 ⟨Nat.zero_le _, Nat.zero_le _⟩ (fun x63 H locs h63 hP hD hS => ?_)
        exact c_retv hx hb hr hlocks hAe hK hP hD hS dX7_prepare_66 (by rw [h63, h44, hu, hjn, h15]; rfl)
      · have hjn : j < 25 := by rw [ex3] at c_23; exact Nat.not_le.mp (fun q9 => c_23 (nI_le (a := 25) q9 (by omega)))
        refine lv_aload_n hx hb dX7_prepare_26 rfl (lv_at hl 0 rfl) ?_
        refine cg_X7_struck (i := k) hx hb hts hin7 hown hK hP ((hR 20 (k)).mpr hk5) (by decide +kernel) dX7_prepare_27 ?_
        refine lv_iload_n hx hb dX7_prepare_30 rfl (lv_at hl 3 rfl) ?_
        refine lv_iconst (v := 0) hx hb dX7_prepare_31 (by decide) ?_
        refine cs_bool 22 (k) 25 hx hb hK hP hD hS ((hR 22 (k)).mpr hk5) (fun _ _ _ => rfl) (by rw [ex3]; exact vp_in_nI hjn (by omega)) dX7_prepare_32 (fun H locs hP hD hS => ?_)
        rw [nar0, ex3, nI_clamp (by omega)] at hP hD
        obtain ⟨x3_1, ex3_1⟩ : ∃ z : Int32, z = x3 + 1 := ⟨_, rfl⟩
        refine lv_iinc (v := x3_1) (lv' := [(3, .int x3_1), (0, .ref (ad 20 k)), (1, .int s9), (2, .int mn)]) hx hb dX7_prepare_33 hl (k := 3) rfl (by rw [ex3_1]; rfl) (by decide) rfl (fun ls hl => ?_)
        refine lv_goto (tgt := 20) hx hb dX7_prepare_36 (by decide) ?_
        exact ih_20 (j + 1) _ _ (by omega) (by omega) (by rw [ex3_1, ex3]; exact nI_1 _) (by rw [hu, cF_s]) _ _ hP hD hS _ (lv_sub hl [1, 2, 3, 0] rfl)
  exact lp_20 26 0 _ _ (Nat.zero_le _) (by omega) rfl (cF_0 _ _ _ _).symm _ _ hP hD hS _ (lv_sub hl [1, 2, 3, 0] rfl)
def cHear (x : cS) (k d : Nat) (sd q : Int32) : Int32 × cS := if x.1 20 k 4 = 0 ∨ ¬ x.1 20 k 11 = 0 ∨ ¬ x.1 20 k 12 = 0 ∨ ¬ q ≤ x.1 23 k d ∨ (sd = 1 ∧ x.1 20 k 10 = 0) then (-4, x) else (x.1 23 k d - q, cI (cI x 20 k 10 1) 23 k d (x.1 23 k d - q))
set_option maxHeartbeats 4000000 in
set_option maxRecDepth 100000 in
/-- Suit.hearWords -/
theorem ctX7_hearWords (l : Launch) (D : va_G) (y : Nat → ClassId) (ad : Nat → Nat → Nat) (x : cS) (R : List (Nat × Nat)) (qs : Nat → Nat × Nat) (nC nT : Nat) (hR : cHas R nC nT) (k : Nat) (d : Nat) (sd q : Int32) (hk5 : k < 5) (hd : d < 2) (hsd : sd = nI d) : cMi l yX7_hearWords wsX7_hearWords ({ frames := 0, cells := 0, slots := 0, locals := 0 }) D y ad x R qs [.ref (ad 20 k), .int sd, .int q] (fun r x' => (r, x') = cHear x k d sd q) := by
  refine cMi_of (cc := cX7_hearWords) (maxL := 3) (ret := (some .int)) (by decide) rfl (Nat.le_of_ble_eq_true rfl) ?_
  intro p e s m below meth c A ls hat hAe hl
  obtain ⟨hx, hb, hr, hml, hts, hown, hlocks, hK, hP, hD, hA, hE⟩ := hat
  have hown : s.vm.findClass RX7 = some m.cls := hown
  have hin7 : ∀ w ∈ wsX70, w ∈ wsX7_hearWords := fun _ h9 => List.mem_cons_of_mem _ (List.mem_append_right _ h9)
  have hl : lv_has ls 3 [(0, .ref (ad 20 k)), (1, .int sd), (2, .int q)] := hl
  have hS : va_S A s.heap s.heap [] := va_S.rf
  have hcd : sd.toNatClampNeg = d := by rw [hsd]; exact nI_clamp (by omega)
  have hi2 : vp_in sd 2 := by rw [hsd]; exact vp_in_nI hd (by omega)
  have hs0 : ¬ sd < 0 := fun q9 => by rw [hsd] at q9; have := (nI_ltI (b := 0) (by omega) (by omega)).mp q9; omega
  have hs2 : ¬ nI 2 ≤ sd := fun q9 => by rw [hsd] at q9; have := (nI_leI (by omega) (by omega)).mp q9; omega
  refine lv_aload_n hx hb dX7_hearWords_0 rfl (lv_at hl 0 rfl) ?_
  refine cg_X7_open (i := k) hx hb hts hin7 hown hK hP ((hR 20 (k)).mpr hk5) (by decide +kernel) dX7_hearWords_1 ?_
  refine lv_if_eq (tgt := 33) hx hb dX7_hearWords_4 (by decide) (fun c_4 => ?_) (fun c_4 => ?_)
  · refine lv_bipush (v := (-4)) hx hb dX7_hearWords_33 (by decide) ?_
    exact c_reti hx hb hr hlocks hAe hK hP hD hS rfl dX7_hearWords_35 (by rw [cHear, if_pos (by simp [c_4])])
  · refine lv_aload_n hx hb dX7_hearWords_7 rfl (lv_at hl 0 rfl) ?_
    refine cg_X7_witnessHeard (i := k) hx hb hts hin7 hown hK hP ((hR 20 (k)).mpr hk5) (by decide +kernel) dX7_hearWords_8 ?_
    refine lv_if_ne (tgt := 33) hx hb dX7_hearWords_11 (by decide) (fun c_11 => ?_) (fun c_11 => ?_)
    · refine lv_bipush (v := (-4)) hx hb dX7_hearWords_33 (by decide) ?_
      exact c_reti hx hb hr hlocks hAe hK hP hD hS rfl dX7_hearWords_35 (by rw [cHear, if_pos (by simp [c_4, c_11])])
    · refine lv_aload_n hx hb dX7_hearWords_14 rfl (lv_at hl 0 rfl) ?_
      refine cg_X7_discTold (i := k) hx hb hts hin7 hown hK hP ((hR 20 (k)).mpr hk5) (by decide +kernel) dX7_hearWords_15 ?_
      refine lv_if_ne (tgt := 33) hx hb dX7_hearWords_18 (by decide) (fun c_18 => ?_) (fun c_18 => ?_)
      · refine lv_bipush (v := (-4)) hx hb dX7_hearWords_33 (by decide) ?_
        exact c_reti hx hb hr hlocks hAe hK hP hD hS rfl dX7_hearWords_35 (by rw [cHear, if_pos (by simp [c_4, c_11, c_18])])
      · refine lv_iload_n hx hb dX7_hearWords_21 rfl (lv_at hl 1 rfl) ?_
        refine lv_iconst (v := 1) hx hb dX7_hearWords_22 (by decide) ?_
        refine lv_icmp_ne (tgt := 36) hx hb dX7_hearWords_23 (by decide) (fun c_23 => ?_) (fun c_23 => ?_)
        · refine lv_iload_n hx hb dX7_hearWords_36 rfl (lv_at hl 1 rfl) ?_
          refine lv_if_lt (tgt := 59) hx hb dX7_hearWords_37 (by decide) (fun c_37 => ?_) (fun c_37 => ?_)
          · exact absurd c_37 hs0
          · refine lv_iload_n hx hb dX7_hearWords_40 rfl (lv_at hl 1 rfl) ?_
            refine lv_aload_n hx hb dX7_hearWords_41 rfl (lv_at hl 0 rfl) ?_
            refine cg_X7_water (i := k) hx hb hts hin7 hown hK hP ((hR 20 (k)).mpr hk5) (by decide +kernel) dX7_hearWords_42 ?_
            refine c_len (t0 := 1) 23 (k) hx hb hK hP ((hR 23 (k)).mpr hk5) rfl rfl dX7_hearWords_45 ?_
            refine lv_icmp_ge (tgt := 59) hx hb dX7_hearWords_46 (by decide) (fun c_46 => ?_) (fun c_46 => ?_)
            · exact absurd c_46 hs2
            · refine lv_iload_n hx hb dX7_hearWords_49 rfl (lv_at hl 2 rfl) ?_
              refine lv_aload_n hx hb dX7_hearWords_50 rfl (lv_at hl 0 rfl) ?_
              refine cg_X7_water (i := k) hx hb hts hin7 hown hK hP ((hR 20 (k)).mpr hk5) (by decide +kernel) dX7_hearWords_51 ?_
              refine lv_iload_n hx hb dX7_hearWords_54 rfl (lv_at hl 1 rfl) ?_
              refine cl_int 23 (k) 2 hx hb hK hP ((hR 23 (k)).mpr hk5) (fun _ _ _ => rfl) (hi2) dX7_hearWords_55 ?_
              refine lv_icmp_le (tgt := 62) hx hb dX7_hearWords_56 (by decide) (fun c_56 => ?_) (fun c_56 => ?_)
              · rw [hcd] at c_56
                refine lv_aload_n hx hb dX7_hearWords_62 rfl (lv_at hl 0 rfl) ?_
                refine lv_iconst (v := 1) hx hb dX7_hearWords_63 (by decide) ?_
                refine cp_X7_accuserSpoke (i := k) hx hb hts hin7 hown hK hP hD hS ((hR 20 (k)).mpr hk5) (by decide) (by decide +kernel) dX7_hearWords_64 (fun H locs hP hD hS => ?_)
                refine lv_aload_n hx hb dX7_hearWords_67 rfl (lv_at hl 0 rfl) ?_
                refine cg_X7_water (i := k) hx hb hts hin7 hown hK hP ((hR 20 (k)).mpr hk5) (by decide +kernel) dX7_hearWords_68 ?_
                refine lv_iload_n hx hb dX7_hearWords_71 rfl (lv_at hl 1 rfl) ?_
                refine lv_dup2_11 hx hb dX7_hearWords_72 rfl rfl ?_
                refine cl_int 23 (k) 2 hx hb hK hP ((hR 23 (k)).mpr hk5) (fun _ _ _ => rfl) (hi2) dX7_hearWords_73 ?_
                refine lv_iload_n hx hb dX7_hearWords_74 rfl (lv_at hl 2 rfl) ?_
                refine lv_isub hx hb dX7_hearWords_75 ?_
                refine cs_int 23 (k) 2 hx hb hK hP hD hS ((hR 23 (k)).mpr hk5) (fun _ _ _ => rfl) (hi2) dX7_hearWords_76 (fun H locs hP hD hS => ?_)
                refine lv_aload_n hx hb dX7_hearWords_77 rfl (lv_at hl 0 rfl) ?_
                refine cg_X7_water (i := k) hx hb hts hin7 hown hK hP ((hR 20 (k)).mpr hk5) (by decide +kernel) dX7_hearWords_78 ?_
                refine lv_iload_n hx hb dX7_hearWords_81 rfl (lv_at hl 1 rfl) ?_
                refine cl_int 23 (k) 2 hx hb hK hP ((hR 23 (k)).mpr hk5) (fun _ _ _ => rfl) (hi2) dX7_hearWords_82 ?_
                exact c_reti hx hb hr hlocks hAe hK hP hD hS rfl dX7_hearWords_83 (by rw [cHear, if_neg (by simp [c_4, c_11, c_18, c_23, c_56]), hcd]; simp [cI_r])
              · rw [hcd] at c_56
                refine lv_bipush (v := (-4)) hx hb dX7_hearWords_59 (by decide) ?_
                exact c_reti hx hb hr hlocks hAe hK hP hD hS rfl dX7_hearWords_61 (by rw [cHear, if_pos (by simp [c_4, c_11, c_18, c_23, c_56])])
        · refine lv_aload_n hx hb dX7_hearWords_26 rfl (lv_at hl 0 rfl) ?_
          refine cg_X7_accuserSpoke (i := k) hx hb hts hin7 hown hK hP ((hR 20 (k)).mpr hk5) (by decide +kernel) dX7_hearWords_27 ?_
          refine lv_if_ne (tgt := 36) hx hb dX7_hearWords_30 (by decide) (fun c_30 => ?_) (fun c_30 => ?_)
          · refine lv_iload_n hx hb dX7_hearWords_36 rfl (lv_at hl 1 rfl) ?_
            refine lv_if_lt (tgt := 59) hx hb dX7_hearWords_37 (by decide) (fun c_37 => ?_) (fun c_37 => ?_)
            · exact absurd c_37 hs0
            · refine lv_iload_n hx hb dX7_hearWords_40 rfl (lv_at hl 1 rfl) ?_
              refine lv_aload_n hx hb dX7_hearWords_41 rfl (lv_at hl 0 rfl) ?_
              refine cg_X7_water (i := k) hx hb hts hin7 hown hK hP ((hR 20 (k)).mpr hk5) (by decide +kernel) dX7_hearWords_42 ?_
              refine c_len (t0 := 1) 23 (k) hx hb hK hP ((hR 23 (k)).mpr hk5) rfl rfl dX7_hearWords_45 ?_
              refine lv_icmp_ge (tgt := 59) hx hb dX7_hearWords_46 (by decide) (fun c_46 => ?_) (fun c_46 => ?_)
              · exact absurd c_46 hs2
              · refine lv_iload_n hx hb dX7_hearWords_49 rfl (lv_at hl 2 rfl) ?_
                refine lv_aload_n hx hb dX7_hearWords_50 rfl (lv_at hl 0 rfl) ?_
                refine cg_X7_water (i := k) hx hb hts hin7 hown hK hP ((hR 20 (k)).mpr hk5) (by decide +kernel) dX7_hearWords_51 ?_
                refine lv_iload_n hx hb dX7_hearWords_54 rfl (lv_at hl 1 rfl) ?_
                refine cl_int 23 (k) 2 hx hb hK hP ((hR 23 (k)).mpr hk5) (fun _ _ _ => rfl) (hi2) dX7_hearWords_55 ?_
                refine lv_icmp_le (tgt := 62) hx hb dX7_hearWords_56 (by decide) (fun c_56 => ?_) (fun c_56 => ?_)
                · rw [hcd] at c_56
                  refine lv_aload_n hx hb dX7_hearWords_62 rfl (lv_at hl 0 rfl) ?_
                  refine lv_iconst (v := 1) hx hb dX7_hearWords_63 (by decide) ?_
                  refine cp_X7_accuserSpoke (i := k) hx hb hts hin7 hown hK hP hD hS ((hR 20 (k)).mpr hk5) (by decide) (by decide +kernel) dX7_hearWords_64 (fun H locs hP hD hS => ?_)
                  refine lv_aload_n hx hb dX7_hearWords_67 rfl (lv_at hl 0 rfl) ?_
                  refine cg_X7_water (i := k) hx hb hts hin7 hown hK hP ((hR 20 (k)).mpr hk5) (by decide +kernel) dX7_hearWords_68 ?_
                  refine lv_iload_n hx hb dX7_hearWords_71 rfl (lv_at hl 1 rfl) ?_
                  refine lv_dup2_11 hx hb dX7_hearWords_72 rfl rfl ?_
                  refine cl_int 23 (k) 2 hx hb hK hP ((hR 23 (k)).mpr hk5) (fun _ _ _ => rfl) (hi2) dX7_hearWords_73 ?_
                  refine lv_iload_n hx hb dX7_hearWords_74 rfl (lv_at hl 2 rfl) ?_
                  refine lv_isub hx hb dX7_hearWords_75 ?_
                  refine cs_int 23 (k) 2 hx hb hK hP hD hS ((hR 23 (k)).mpr hk5) (fun _ _ _ => rfl) (hi2) dX7_hearWords_76 (fun H locs hP hD hS => ?_)
                  refine lv_aload_n hx hb dX7_hearWords_77 rfl (lv_at hl 0 rfl) ?_
                  refine cg_X7_water (i := k) hx hb hts hin7 hown hK hP ((hR 20 (k)).mpr hk5) (by decide +kernel) dX7_hearWords_78 ?_
                  refine lv_iload_n hx hb dX7_hearWords_81 rfl (lv_at hl 1 rfl) ?_
                  refine cl_int 23 (k) 2 hx hb hK hP ((hR 23 (k)).mpr hk5) (fun _ _ _ => rfl) (hi2) dX7_hearWords_82 ?_
                  exact c_reti hx hb hr hlocks hAe hK hP hD hS rfl dX7_hearWords_83 (by rw [cHear, if_neg (by simp [c_4, c_11, c_18, c_23, c_30, c_56]), hcd]; simp [cI_r])
                · rw [hcd] at c_56
                  refine lv_bipush (v := (-4)) hx hb dX7_hearWords_59 (by decide) ?_
                  exact c_reti hx hb hr hlocks hAe hK hP hD hS rfl dX7_hearWords_61 (by rw [cHear, if_pos (by simp [c_4, c_11, c_18, c_23, c_30, c_56])])
          · refine lv_bipush (v := (-4)) hx hb dX7_hearWords_33 (by decide) ?_
            exact c_reti hx hb hr hlocks hAe hK hP hD hS rfl dX7_hearWords_35 (by rw [cHear, if_pos (by simp [c_4, c_11, c_18, c_23, c_30])])
def cTurn (x : cS) (k : Nat) : Int32 × cS := if x.1 20 k 4 = 0 ∨ ¬ x.1 20 k 12 = 0 then (-4, x) else if x.1 20 k 11 = 0 then (1, cI x 20 k 11 1) else (0, cI x 20 k 11 0)
set_option maxHeartbeats 4000000 in
set_option maxRecDepth 100000 in
/-- Suit.turnWitness -/
theorem ctX7_turnWitness (l : Launch) (D : va_G) (y : Nat → ClassId) (ad : Nat → Nat → Nat) (x : cS) (R : List (Nat × Nat)) (qs : Nat → Nat × Nat) (nC nT : Nat) (hR : cHas R nC nT) (k : Nat) (hk5 : k < 5) : cMi l yX7_turnWitness wsX7_turnWitness ({ frames := 0, cells := 0, slots := 0, locals := 0 }) D y ad x R qs [.ref (ad 20 k)] (fun r x' => (r, x') = cTurn x k) := by
  refine cMi_of (cc := cX7_turnWitness) (maxL := 1) (ret := (some .int)) (by decide) rfl (Nat.le_of_ble_eq_true rfl) ?_
  intro p e s m below meth c A ls hat hAe hl
  obtain ⟨hx, hb, hr, hml, hts, hown, hlocks, hK, hP, hD, hA, hE⟩ := hat
  have hown : s.vm.findClass RX7 = some m.cls := hown
  have hin7 : ∀ w ∈ wsX70, w ∈ wsX7_turnWitness := fun _ h9 => List.mem_cons_of_mem _ (List.mem_append_right _ h9)
  have hl : lv_has ls 1 [(0, .ref (ad 20 k))] := hl
  have hS : va_S A s.heap s.heap [] := va_S.rf
  refine lv_aload_n hx hb dX7_turnWitness_0 rfl (lv_at hl 0 rfl) ?_
  refine cg_X7_open (i := k) hx hb hts hin7 hown hK hP ((hR 20 (k)).mpr hk5) (by decide +kernel) dX7_turnWitness_1 ?_
  refine lv_if_eq (tgt := 14) hx hb dX7_turnWitness_4 (by decide) (fun c_4 => ?_) (fun c_4 => ?_)
  · refine lv_bipush (v := (-4)) hx hb dX7_turnWitness_14 (by decide) ?_
    exact c_reti hx hb hr hlocks hAe hK hP hD hS rfl dX7_turnWitness_16 (by rw [cTurn, if_pos (by simp [c_4])])
  · refine lv_aload_n hx hb dX7_turnWitness_7 rfl (lv_at hl 0 rfl) ?_
    refine cg_X7_discTold (i := k) hx hb hts hin7 hown hK hP ((hR 20 (k)).mpr hk5) (by decide +kernel) dX7_turnWitness_8 ?_
    refine lv_if_eq (tgt := 17) hx hb dX7_turnWitness_11 (by decide) (fun c_11 => ?_) (fun c_11 => ?_)
    · refine lv_aload_n hx hb dX7_turnWitness_17 rfl (lv_at hl 0 rfl) ?_
      refine lv_aload_n hx hb dX7_turnWitness_18 rfl (lv_at hl 0 rfl) ?_
      refine cg_X7_witnessHeard (i := k) hx hb hts hin7 hown hK hP ((hR 20 (k)).mpr hk5) (by decide +kernel) dX7_turnWitness_19 ?_
      refine lv_if_ne (tgt := 29) hx hb dX7_turnWitness_22 (by decide) (fun c_22 => ?_) (fun c_22 => ?_)
      · refine lv_iconst (v := 0) hx hb dX7_turnWitness_29 (by decide) ?_
        refine cp_X7_witnessHeard (i := k) hx hb hts hin7 hown hK hP hD hS ((hR 20 (k)).mpr hk5) (by decide) (by decide +kernel) dX7_turnWitness_30 (fun H locs hP hD hS => ?_)
        refine lv_aload_n hx hb dX7_turnWitness_33 rfl (lv_at hl 0 rfl) ?_
        refine cg_X7_witnessHeard (i := k) hx hb hts hin7 hown hK hP ((hR 20 (k)).mpr hk5) (by decide +kernel) dX7_turnWitness_34 ?_
        refine lv_if_eq (tgt := 44) hx hb dX7_turnWitness_37 (by decide) (fun c_37 => ?_) (fun c_37 => ?_)
        · refine lv_iconst (v := 0) hx hb dX7_turnWitness_44 (by decide) ?_
          exact c_reti hx hb hr hlocks hAe hK hP hD hS rfl dX7_turnWitness_45 (by rw [cTurn, if_neg (by simp [c_4, c_11])]; simp [c_22])
        · exact absurd c_37 (by simp [cI_r])
      · refine lv_iconst (v := 1) hx hb dX7_turnWitness_25 (by decide) ?_
        refine lv_goto (tgt := 30) hx hb dX7_turnWitness_26 (by decide) ?_
        refine cp_X7_witnessHeard (i := k) hx hb hts hin7 hown hK hP hD hS ((hR 20 (k)).mpr hk5) (by decide) (by decide +kernel) dX7_turnWitness_30 (fun H locs hP hD hS => ?_)
        refine lv_aload_n hx hb dX7_turnWitness_33 rfl (lv_at hl 0 rfl) ?_
        refine cg_X7_witnessHeard (i := k) hx hb hts hin7 hown hK hP ((hR 20 (k)).mpr hk5) (by decide +kernel) dX7_turnWitness_34 ?_
        refine lv_if_eq (tgt := 44) hx hb dX7_turnWitness_37 (by decide) (fun c_37 => ?_) (fun c_37 => ?_)
        · exact absurd c_37 (by simp [cI_r])
        · refine lv_iconst (v := 1) hx hb dX7_turnWitness_40 (by decide) ?_
          refine lv_goto (tgt := 45) hx hb dX7_turnWitness_41 (by decide) ?_
          exact c_reti hx hb hr hlocks hAe hK hP hD hS rfl dX7_turnWitness_45 (by rw [cTurn, if_neg (by simp [c_4, c_11])]; simp [c_22])
    · refine lv_bipush (v := (-4)) hx hb dX7_turnWitness_14 (by decide) ?_
      exact c_reti hx hb hr hlocks hAe hK hP hD hS rfl dX7_turnWitness_16 (by rw [cTurn, if_pos (by simp [c_4, c_11])])
def cStrk (x : cS) (k n : Nat) (i : Int32) : cS := if ¬ x.1 20 k 4 = 0 ∧ isC n i = true then cI x 22 k (sI i) 1 else x
set_option maxHeartbeats 4000000 in
set_option maxRecDepth 100000 in
/-- Suit.strikeOut -/
theorem ctX7_strikeOut (l : Launch) (D : va_G) (y : Nat → ClassId) (ad : Nat → Nat → Nat) (x : cS) (R : List (Nat × Nat)) (qs : Nat → Nat × Nat) (nC nT : Nat) (hR : cHas R nC nT) (k : Nat) (n : Nat) (i : Int32) (hk5 : k < 5) (hs : x.1 20 k 5 = nI n) (hn : n ≤ 25) : cMv l yX7_strikeOut wsX7_strikeOut ({ frames := 0, cells := 0, slots := 0, locals := 0 }) D y ad x R qs [.ref (ad 20 k), .int i] (fun x' => x' = cStrk x k n i) := by
  refine cMv_of (cc := cX7_strikeOut) (maxL := 2) (ret := none) (by decide) rfl (Nat.le_of_ble_eq_true rfl) ?_
  intro p e s m below meth c A ls hat hAe hl
  obtain ⟨hx, hb, hr, hml, hts, hown, hlocks, hK, hP, hD, hA, hE⟩ := hat
  have hown : s.vm.findClass RX7 = some m.cls := hown
  have hin7 : ∀ w ∈ wsX70, w ∈ wsX7_strikeOut := fun _ h9 => List.mem_cons_of_mem _ (List.mem_append_right _ h9)
  have hl : lv_has ls 2 [(0, .ref (ad 20 k)), (1, .int i)] := hl
  have hS : va_S A s.heap s.heap [] := va_S.rf
  refine lv_aload_n hx hb dX7_strikeOut_0 rfl (lv_at hl 0 rfl) ?_
  refine cg_X7_open (i := k) hx hb hts hin7 hown hK hP ((hR 20 (k)).mpr hk5) (by decide +kernel) dX7_strikeOut_1 ?_
  refine lv_if_eq (tgt := 26) hx hb dX7_strikeOut_4 (by decide) (fun c_4 => ?_) (fun c_4 => ?_)
  · exact c_retv hx hb hr hlocks hAe hK hP hD hS dX7_strikeOut_26 (by rw [cStrk, if_neg (by simp [c_4])])
  · refine lv_iload_n hx hb dX7_strikeOut_7 rfl (lv_at hl 1 rfl) ?_
    refine lv_if_lt (tgt := 26) hx hb dX7_strikeOut_8 (by decide) (fun c_8 => ?_) (fun c_8 => ?_)
    · exact c_retv hx hb hr hlocks hAe hK hP hD hS dX7_strikeOut_26 (by rw [cStrk, if_neg (by simp only [isC_neg (show n < 2 ^ 31 by omega) c_8]; simp)])
    · refine lv_iload_n hx hb dX7_strikeOut_11 rfl (lv_at hl 1 rfl) ?_
      refine lv_aload_n hx hb dX7_strikeOut_12 rfl (lv_at hl 0 rfl) ?_
      refine cg_X7_seats (i := k) hx hb hts hin7 hown hK hP ((hR 20 (k)).mpr hk5) (by decide +kernel) dX7_strikeOut_13 ?_
      refine lv_icmp_ge (tgt := 26) hx hb dX7_strikeOut_16 (by decide) (fun c_16 => ?_) (fun c_16 => ?_)
      · rw [hs] at c_16
        exact c_retv hx hb hr hlocks hAe hK hP hD hS dX7_strikeOut_26 (by rw [cStrk, if_neg (by simp only [isC_ge (show n < 2 ^ 31 by omega) c_16]; simp)])
      · rw [hs] at c_16
        obtain ⟨g1, g2, g3⟩ := isC_lt (by omega) c_8 c_16
        refine lv_aload_n hx hb dX7_strikeOut_19 rfl (lv_at hl 0 rfl) ?_
        refine cg_X7_struck (i := k) hx hb hts hin7 hown hK hP ((hR 20 (k)).mpr hk5) (by decide +kernel) dX7_strikeOut_20 ?_
        refine lv_iload_n hx hb dX7_strikeOut_23 rfl (lv_at hl 1 rfl) ?_
        refine lv_iconst (v := 1) hx hb dX7_strikeOut_24 (by decide) ?_
        refine cs_bool 22 (k) 25 hx hb hK hP hD hS ((hR 22 (k)).mpr hk5) (fun _ _ _ => rfl) (sn_in g3 g2 hn (by omega)) dX7_strikeOut_25 (fun H locs hP hD hS => ?_)
        rw [nar1] at hP hD
        exact c_retv hx hb hr hlocks hAe hK hP hD hS dX7_strikeOut_26 (by rw [cStrk, if_pos ⟨c_4, g1⟩])
