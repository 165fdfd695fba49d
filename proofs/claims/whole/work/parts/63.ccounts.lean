/-! the landed program: LawText, LawBook.inForce; Suit's counts -/
def cAns (x : cS) (t : Nat) (w : Int32) : Int32 := if isC 51 w then x.1 26 t (sI w) else -9
theorem cAns_k (x : cS) (t : Nat) {j : Nat} (h : j < 51) : cAns x t (nI j) = x.1 26 t j := by
  rw [cAns, if_pos ((inR_c (by omega)).mpr ⟨j, h, rfl⟩), show sI (nI j) = j from nI_clamp (by omega)]
theorem addk (a : Nat) {b : Int32} {q : Nat} (h : b = nI q) : nI a + b = nI (a + q) := by rw [h, nI_add]
set_option maxHeartbeats 4000000 in
set_option maxRecDepth 100000 in
/-- LawText.answer -/
theorem ctX6_answer (l : Launch) (D : va_G) (y : Nat → ClassId) (ad : Nat → Nat → Nat) (x : cS) (R : List (Nat × Nat)) (qs : Nat → Nat × Nat) (nC nT : Nat) (hR : cHas R nC nT) (t : Nat) (w : Int32) (ht : t < nT + 2) : cMi l yX6_answer wsX6_answer ({ frames := 0, cells := 0, slots := 0, locals := 0 }) D y ad x R qs [.ref (ad 25 t), .int w] (fun r x' => r = cAns x t w ∧ x' = x) := by
  refine cMi_of (cc := cX6_answer) (maxL := 2) (ret := (some .int)) (by decide) rfl (Nat.le_of_ble_eq_true rfl) ?_
  intro p e s m below meth c A ls hat hAe hl
  obtain ⟨hx, hb, hr, hml, hts, hown, hlocks, hK, hP, hD, hA, hE⟩ := hat
  have hown : s.vm.findClass RX6 = some m.cls := hown
  have hin6 : ∀ w ∈ wsX60, w ∈ wsX6_answer := fun _ h9 => List.mem_cons_of_mem _ (List.mem_append_right _ h9)
  have hl : lv_has ls 2 [(0, .ref (ad 25 t)), (1, .int w)] := hl
  have hS : va_S A s.heap s.heap [] := va_S.rf
  refine lv_iload_n hx hb dX6_answer_0 rfl (lv_at hl 1 rfl) ?_
  refine lv_if_lt (tgt := 22) hx hb dX6_answer_1 (by decide) (fun c_1 => ?_) (fun c_1 => ?_)
  · refine lv_bipush (v := (-9)) hx hb dX6_answer_22 (by decide) ?_
    exact c_reti hx hb hr hlocks hAe hK hP hD hS rfl dX6_answer_24 (⟨by rw [cAns, if_neg (by rw [isC_neg (by omega) c_1]; decide)], rfl⟩)
  · refine lv_iload_n hx hb dX6_answer_4 rfl (lv_at hl 1 rfl) ?_
    refine lv_aload_n hx hb dX6_answer_5 rfl (lv_at hl 0 rfl) ?_
    refine cg_X6_values (i := t) hx hb hts hin6 hown hK hP ((hR 25 (t)).mpr ht) (by decide +kernel) dX6_answer_6 ?_
    refine c_len (t0 := 1) 26 (t) hx hb hK hP ((hR 26 (t)).mpr ht) rfl rfl dX6_answer_9 ?_
    refine lv_icmp_ge (tgt := 22) hx hb dX6_answer_10 (by decide) (fun c_10 => ?_) (fun c_10 => ?_)
    · refine lv_bipush (v := (-9)) hx hb dX6_answer_22 (by decide) ?_
      exact c_reti hx hb hr hlocks hAe hK hP hD hS rfl dX6_answer_24 (⟨by rw [cAns, if_neg (by rw [isC_ge (by omega) c_10]; decide)], rfl⟩)
    · obtain ⟨g1, g2, g3⟩ := isC_lt (n := 51) (by omega) c_1 c_10
      refine lv_aload_n hx hb dX6_answer_13 rfl (lv_at hl 0 rfl) ?_
      refine cg_X6_values (i := t) hx hb hts hin6 hown hK hP ((hR 25 (t)).mpr ht) (by decide +kernel) dX6_answer_14 ?_
      refine lv_iload_n hx hb dX6_answer_17 rfl (lv_at hl 1 rfl) ?_
      refine cl_int 26 (t) 51 hx hb hK hP ((hR 26 (t)).mpr ht) (fun _ _ _ => rfl) (sn_in g3 g2 (Nat.le_refl _) (by omega)) dX6_answer_18 ?_
      refine lv_goto (tgt := 24) hx hb dX6_answer_19 (by decide) ?_
      exact c_reti hx hb hr hlocks hAe hK hP hD hS rfl dX6_answer_24 (⟨by rw [cAns, if_pos g1], rfl⟩)
def cTell (x : cS) (t : Nat) (w v : Int32) : cS := if isC 51 w then cI x 26 t (sI w) v else x
theorem cTell_k (x : cS) (t : Nat) {j : Nat} (v : Int32) (h : j < 51) : cTell x t (nI j) v = cI x 26 t j v := by
  rw [cTell, if_pos ((inR_c (by omega)).mpr ⟨j, h, rfl⟩), show sI (nI j) = j from nI_clamp (by omega)]
set_option maxHeartbeats 4000000 in
set_option maxRecDepth 100000 in
/-- LawText.tell -/
theorem ctX6_tell (l : Launch) (D : va_G) (y : Nat → ClassId) (ad : Nat → Nat → Nat) (x : cS) (R : List (Nat × Nat)) (qs : Nat → Nat × Nat) (nC nT : Nat) (hR : cHas R nC nT) (t : Nat) (w v : Int32) (ht : t < nT + 2) : cMv l yX6_tell wsX6_tell ({ frames := 0, cells := 0, slots := 0, locals := 0 }) D y ad x R qs [.ref (ad 25 t), .int w, .int v] (fun x' => x' = cTell x t w v) := by
  refine cMv_of (cc := cX6_tell) (maxL := 3) (ret := none) (by decide) rfl (Nat.le_of_ble_eq_true rfl) ?_
  intro p e s m below meth c A ls hat hAe hl
  obtain ⟨hx, hb, hr, hml, hts, hown, hlocks, hK, hP, hD, hA, hE⟩ := hat
  have hown : s.vm.findClass RX6 = some m.cls := hown
  have hin6 : ∀ w ∈ wsX60, w ∈ wsX6_tell := fun _ h9 => List.mem_cons_of_mem _ (List.mem_append_right _ h9)
  have hl : lv_has ls 3 [(0, .ref (ad 25 t)), (1, .int w), (2, .int v)] := hl
  have hS : va_S A s.heap s.heap [] := va_S.rf
  refine lv_iload_n hx hb dX6_tell_0 rfl (lv_at hl 1 rfl) ?_
  refine lv_if_lt (tgt := 20) hx hb dX6_tell_1 (by decide) (fun c_1 => ?_) (fun c_1 => ?_)
  · exact c_retv hx hb hr hlocks hAe hK hP hD hS dX6_tell_20 (by rw [cTell, if_neg (by rw [isC_neg (by omega) c_1]; decide)])
  · refine lv_iload_n hx hb dX6_tell_4 rfl (lv_at hl 1 rfl) ?_
    refine lv_aload_n hx hb dX6_tell_5 rfl (lv_at hl 0 rfl) ?_
    refine cg_X6_values (i := t) hx hb hts hin6 hown hK hP ((hR 25 (t)).mpr ht) (by decide +kernel) dX6_tell_6 ?_
    refine c_len (t0 := 1) 26 (t) hx hb hK hP ((hR 26 (t)).mpr ht) rfl rfl dX6_tell_9 ?_
    refine lv_icmp_ge (tgt := 20) hx hb dX6_tell_10 (by decide) (fun c_10 => ?_) (fun c_10 => ?_)
    · exact c_retv hx hb hr hlocks hAe hK hP hD hS dX6_tell_20 (by rw [cTell, if_neg (by rw [isC_ge (by omega) c_10]; decide)])
    · obtain ⟨g1, g2, g3⟩ := isC_lt (n := 51) (by omega) c_1 c_10
      refine lv_aload_n hx hb dX6_tell_13 rfl (lv_at hl 0 rfl) ?_
      refine cg_X6_values (i := t) hx hb hts hin6 hown hK hP ((hR 25 (t)).mpr ht) (by decide +kernel) dX6_tell_14 ?_
      refine lv_iload_n hx hb dX6_tell_17 rfl (lv_at hl 1 rfl) ?_
      refine lv_iload_n hx hb dX6_tell_18 rfl (lv_at hl 2 rfl) ?_
      refine cs_int 26 (t) 51 hx hb hK hP hD hS ((hR 26 (t)).mpr ht) (fun _ _ _ => rfl) (sn_in g3 g2 (Nat.le_refl _) (by omega)) dX6_tell_19 (fun H locs hP hD hS => ?_)
      exact c_retv hx hb hr hlocks hAe hK hP hD hS dX6_tell_20 (by rw [cTell, if_pos g1])
def cWat (x : cS) (t q : Nat) (s9 : Int32) : Int32 := if ¬ x.1 26 t (20 + q) = -1 ∧ ¬ s9 ≤ x.1 26 t (20 + q) then x.1 26 t (30 + q) else x.1 26 t (10 + q)
set_option maxHeartbeats 4000000 in
set_option maxRecDepth 100000 in
/-- LawText.waterOf -/
theorem ctX6_waterOf (l : Launch) (D : va_G) (y : Nat → ClassId) (ad : Nat → Nat → Nat) (x : cS) (R : List (Nat × Nat)) (qs : Nat → Nat × Nat) (nC nT : Nat) (hR : cHas R nC nT) (t : Nat) (q : Nat) (kd s9 : Int32) (ht : t < nT + 2) (hq : q < 6) (hkd : kd = nI q) : cMi l yX6_waterOf wsX6_waterOf ({ frames := 1, cells := 0, slots := 0, locals := 21 }) D y ad x R qs [.ref (ad 25 t), .int kd, .int s9] (fun r x' => r = cWat x t q s9 ∧ x' = x) := by
  refine cMi_of (cc := cX6_waterOf) (maxL := 4) (ret := (some .int)) (by decide) rfl (Nat.le_of_ble_eq_true rfl) ?_
  intro p e s m below meth c A ls hat hAe hl
  obtain ⟨hx, hb, hr, hml, hts, hown, hlocks, hK, hP, hD, hA, hE⟩ := hat
  have hown : s.vm.findClass RX6 = some m.cls := hown
  have hin6 : ∀ w ∈ wsX60, w ∈ wsX6_waterOf := fun _ h9 => List.mem_cons_of_mem _ (List.mem_append_right _ h9)
  have hl : lv_has ls 4 [(0, .ref (ad 25 t)), (1, .int kd), (2, .int s9)] := hl
  have hS : va_S A s.heap s.heap [] := va_S.rf
  have e20 : cAns x t (20 + kd) = x.1 26 t (20 + q) := by rw [show (20 : Int32) + kd = nI (20 + q) from addk 20 hkd]; exact cAns_k x t (by omega)
  have e30 : cAns x t (30 + kd) = x.1 26 t (30 + q) := by rw [show (30 : Int32) + kd = nI (30 + q) from addk 30 hkd]; exact cAns_k x t (by omega)
  have e10 : cAns x t (10 + kd) = x.1 26 t (10 + q) := by rw [show (10 : Int32) + kd = nI (10 + q) from addk 10 hkd]; exact cAns_k x t (by omega)
  refine lv_aload_n hx hb dX6_waterOf_0 rfl (lv_at hl 0 rfl) ?_
  refine lv_bipush (v := 20) hx hb dX6_waterOf_1 (by decide) ?_
  refine lv_iload_n hx hb dX6_waterOf_3 rfl (lv_at hl 1 rfl) ?_
  refine lv_iadd hx hb dX6_waterOf_4 ?_
  refine c_callip (ci := 6) (q := (RX6, TX6, 2)) (κ := 25) (i := t) (As := [.int (20 + kd)]) (rest := []) ⟨hx, hb, hml, hown, hts⟩ (ctX6_answer l D y ad x R qs nC nT hR t (20 + kd) ht) (cwV 1 hts gX6_waterOf_X6_answer rfl rfl rfl (by decide +kernel) ⟨Nat.le_of_ble_eq_true rfl, Nat.le_of_ble_eq_true rfl⟩) ((hR 25 (t)).mpr ht) (fun _ _ _ => ⟨_, rfl⟩) rfl hE hK hP hD hS hA rfl hl.1 rfl (Nat.le_of_ble_eq_true rfl) dX6_waterOf_5 ⟨Nat.zero_le _, Nat.zero_le _⟩ (fun H locs hP hD hS => ?_)
  refine lv_topi (fun ov eov => ?_)
  refine lv_istore_n (lv' := [(3, .int ov), (0, .ref (ad 25 t)), (1, .int kd), (2, .int s9)]) hx hb dX6_waterOf_8 rfl hl (by decide) rfl (fun ls hl => ?_)
  rw [e20] at eov
  subst eov
  refine lv_iload_n hx hb dX6_waterOf_9 rfl (lv_at hl 0 rfl) ?_
  refine lv_iconst (v := (-1)) hx hb dX6_waterOf_10 (by decide) ?_
  refine lv_icmp_eq (tgt := 30) hx hb dX6_waterOf_11 (by decide) (fun c_11 => ?_) (fun c_11 => ?_)
  · refine lv_aload_n hx hb dX6_waterOf_30 rfl (lv_at hl 1 rfl) ?_
    refine lv_bipush (v := 10) hx hb dX6_waterOf_31 (by decide) ?_
    refine lv_iload_n hx hb dX6_waterOf_33 rfl (lv_at hl 2 rfl) ?_
    refine lv_iadd hx hb dX6_waterOf_34 ?_
    refine c_callip (ci := 6) (q := (RX6, TX6, 2)) (κ := 25) (i := t) (As := [.int (10 + kd)]) (rest := []) ⟨hx, hb, hml, hown, hts⟩ (ctX6_answer l D y ad x R qs nC nT hR t (10 + kd) ht) (cwV 1 hts gX6_waterOf_X6_answer rfl rfl rfl (by decide +kernel) ⟨Nat.le_of_ble_eq_true rfl, Nat.le_of_ble_eq_true rfl⟩) ((hR 25 (t)).mpr ht) (fun _ _ _ => ⟨_, rfl⟩) rfl hE hK hP hD hS hA rfl hl.1 rfl (Nat.le_of_ble_eq_true rfl) dX6_waterOf_35 ⟨Nat.zero_le _, Nat.zero_le _⟩ (fun H locs hP hD hS => ?_)
    exact c_reti hx hb hr hlocks hAe hK hP hD hS rfl dX6_waterOf_38 (⟨by rw [e10, cWat]; simp [c_11], rfl⟩)
  · refine lv_iload_n hx hb dX6_waterOf_14 rfl (lv_at hl 3 rfl) ?_
    refine lv_iload_n hx hb dX6_waterOf_15 rfl (lv_at hl 0 rfl) ?_
    refine lv_icmp_le (tgt := 30) hx hb dX6_waterOf_16 (by decide) (fun c_16 => ?_) (fun c_16 => ?_)
    · refine lv_aload_n hx hb dX6_waterOf_30 rfl (lv_at hl 1 rfl) ?_
      refine lv_bipush (v := 10) hx hb dX6_waterOf_31 (by decide) ?_
      refine lv_iload_n hx hb dX6_waterOf_33 rfl (lv_at hl 2 rfl) ?_
      refine lv_iadd hx hb dX6_waterOf_34 ?_
      refine c_callip (ci := 6) (q := (RX6, TX6, 2)) (κ := 25) (i := t) (As := [.int (10 + kd)]) (rest := []) ⟨hx, hb, hml, hown, hts⟩ (ctX6_answer l D y ad x R qs nC nT hR t (10 + kd) ht) (cwV 1 hts gX6_waterOf_X6_answer rfl rfl rfl (by decide +kernel) ⟨Nat.le_of_ble_eq_true rfl, Nat.le_of_ble_eq_true rfl⟩) ((hR 25 (t)).mpr ht) (fun _ _ _ => ⟨_, rfl⟩) rfl hE hK hP hD hS hA rfl hl.1 rfl (Nat.le_of_ble_eq_true rfl) dX6_waterOf_35 ⟨Nat.zero_le _, Nat.zero_le _⟩ (fun H locs hP hD hS => ?_)
      exact c_reti hx hb hr hlocks hAe hK hP hD hS rfl dX6_waterOf_38 (⟨by rw [e10, cWat]; simp [c_11, c_16], rfl⟩)
    · refine lv_aload_n hx hb dX6_waterOf_19 rfl (lv_at hl 1 rfl) ?_
      refine lv_bipush (v := 30) hx hb dX6_waterOf_20 (by decide) ?_
      refine lv_iload_n hx hb dX6_waterOf_22 rfl (lv_at hl 2 rfl) ?_
      refine lv_iadd hx hb dX6_waterOf_23 ?_
      refine c_callip (ci := 6) (q := (RX6, TX6, 2)) (κ := 25) (i := t) (As := [.int (30 + kd)]) (rest := []) ⟨hx, hb, hml, hown, hts⟩ (ctX6_answer l D y ad x R qs nC nT hR t (30 + kd) ht) (cwV 1 hts gX6_waterOf_X6_answer rfl rfl rfl (by decide +kernel) ⟨Nat.le_of_ble_eq_true rfl, Nat.le_of_ble_eq_true rfl⟩) ((hR 25 (t)).mpr ht) (fun _ _ _ => ⟨_, rfl⟩) rfl hE hK hP hD hS hA rfl hl.1 rfl (Nat.le_of_ble_eq_true rfl) dX6_waterOf_24 ⟨Nat.zero_le _, Nat.zero_le _⟩ (fun H locs hP hD hS => ?_)
      refine lv_goto (tgt := 38) hx hb dX6_waterOf_27 (by decide) ?_
      exact c_reti hx hb hr hlocks hAe hK hP hD hS rfl dX6_waterOf_38 (⟨by rw [e30, cWat]; simp [c_11, c_16], rfl⟩)
def cFo (x : cS) (day : Int32) : Nat → Nat
  | 0 => 1
  | j + 1 => if x.1 25 (j + 2) 1 ≤ day ∧ x.1 25 (cFo x day j) 1 ≤ x.1 25 (j + 2) 1 then j + 2 else cFo x day j
set_option maxHeartbeats 4000000 in
set_option maxRecDepth 100000 in
/-- LawBook.inForce -/
theorem ctX4_inForce (l : Launch) (D : va_G) (y : Nat → ClassId) (ad : Nat → Nat → Nat) (x : cS) (R : List (Nat × Nat)) (qs : Nat → Nat × Nat) (nC nT : Nat) (hR : cHas R nC nT) (day : Int32) (hsz : x.1 6 0 2 = nI nT) (hT15 : nT ≤ 15) (hTx : ∀ j, j < nT → x.2.2 7 0 j = some (j + 2)) : cMe l yX4_inForce wsX4_inForce ({ frames := 0, cells := 0, slots := 0, locals := 0 }) D y ad x R qs 25 [.ref (ad 6 0), .int day] (fun r x' => r = some (cFo x day nT) ∧ x' = x) := by
  refine cMe_of (cc := cX4_inForce) (maxL := 5) (ret := (some (.object "LotMachine$LawText"))) (by decide) rfl (Nat.le_of_ble_eq_true rfl) ?_
  intro p e s m below meth c A ls hat hAe hl
  obtain ⟨hx, hb, hr, hml, hts, hown, hlocks, hK, hP, hD, hA, hE⟩ := hat
  have hown : s.vm.findClass RX4 = some m.cls := hown
  have hin4 : ∀ w ∈ wsX40, w ∈ wsX4_inForce := fun _ h9 => List.mem_cons_of_mem _ (List.mem_append_left _ (List.mem_append_right _ h9))
  have hin6 : ∀ w ∈ wsX60, w ∈ wsX4_inForce := fun _ h9 => List.mem_cons_of_mem _ (List.mem_append_right _ h9)
  have hl : lv_has ls 5 [(0, .ref (ad 6 0)), (1, .int day)] := hl
  have hS : va_S A s.heap s.heap [] := va_S.rf
  refine lv_aload_n hx hb dX4_inForce_0 rfl (lv_at hl 0 rfl) ?_
  refine cg_X4_custom (i := 0) hx hb hts hin4 hown hK hP ((hR 6 (0)).mpr Nat.zero_lt_one) (by decide +kernel) dX4_inForce_1 ?_
  refine lv_astore_n (lv' := [(2, .ref (ad 25 1)), (0, .ref (ad 6 0)), (1, .int day)]) hx hb dX4_inForce_4 rfl hl (by decide) rfl (fun ls hl => ?_)
  refine lv_iconst (v := 0) hx hb dX4_inForce_5 (by decide) ?_
  refine lv_istore_n (lv' := [(3, .int 0), (2, .ref (ad 25 1)), (0, .ref (ad 6 0)), (1, .int day)]) hx hb dX4_inForce_6 rfl hl (by decide) rfl (fun ls hl => ?_)
  have lp_7 : ∀ (n_7 : Nat) (j fo : Nat) (x3 : Int32), (j ≤ nT) → (nT + 1 ≤ j + n_7) → (x3 = nI j) → (fo < nT + 2) → (fo = cFo x day j) → ∀ (H : Heap) (locs : List Loc), va_P D vwCl (cW ad y x R) H → va_D A (cW ad y x R) → va_S A s.heap H locs → ∀ (ls : Array Slot), lv_has ls 5 [(0, .ref (ad 6 0)), (1, .int day), (2, .ref (ad 25 fo)), (3, .int x3)] → W p l e (headSpec wsX4_inForce ({ frames := 0, cells := 0, slots := 0, locals := 0 })).room s m ([.ref (ad 6 0), .int day] : List Value).toArray below meth c H locs 0 0 (MQ below (va_Qe (ad 25) (fun r x' => r = some (cFo x day nT) ∧ x' = x) (cEnd D y ad R s.heap.size) A) ([.ref (ad 6 0), .int day] : List Value).toArray s 0 0 A) (F0 m 7 ls []) := by
    intro n_7
    induction n_7 with
    | zero =>
      intro j fo x3 hj hf ex3 hfo hfe
      exact absurd hf (by omega)
    | succ n_7 ih_7 =>
      intro j fo x3 hj hf ex3 hfo hfe H locs hP hD hS ls hl
      refine lv_iload_n hx hb dX4_inForce_7 rfl (lv_at hl 3 rfl) ?_
      refine lv_aload_n hx hb dX4_inForce_8 rfl (lv_at hl 0 rfl) ?_
      refine cg_X4_size (i := 0) hx hb hts hin4 hown hK hP ((hR 6 (0)).mpr Nat.zero_lt_one) (by decide +kernel) dX4_inForce_9 ?_
      refine lv_icmp_ge (tgt := 58) hx hb dX4_inForce_12 (by decide) (fun c_12 => ?_) (fun c_12 => ?_)
      · have hjn : j = nT := by rw [hsz, ex3] at c_12; have := (nI_leI (by omega) (by omega)).mp c_12; omega
        refine lv_aload_n hx hb dX4_inForce_58 rfl (lv_at hl 2 rfl) ?_
        exact c_rete (er := 25) (r := some (fo)) hx hb hr hlocks hAe hK hP hD hS dX4_inForce_59 (⟨by rw [hfe, hjn], rfl⟩) rfl
      · have hjn : j < nT := by rw [hsz, ex3] at c_12; exact Nat.not_le.mp (fun q9 => c_12 (nI_le q9 (by omega)))
        have h20 : x.2.2 7 0 x3.toNatClampNeg = some (j + 2) := by rw [ex3, nI_clamp (by omega)]; exact hTx j hjn
        refine lv_aload_n hx hb dX4_inForce_15 rfl (lv_at hl 0 rfl) ?_
        refine cg_X4_texts (i := 0) hx hb hts hin4 hown hK hP ((hR 6 (0)).mpr Nat.zero_lt_one) (by decide +kernel) dX4_inForce_16 ?_
        refine lv_iload_n hx hb dX4_inForce_19 rfl (lv_at hl 3 rfl) ?_
        refine cl_ref 7 (0) 15 25 5 hx hb hK hP ((hR 7 (0)).mpr Nat.zero_lt_one) (fun _ _ _ => rfl) rfl (by rw [ex3]; exact vp_in_nI (by omega) (by omega)) dX4_inForce_20 ?_
        refine lv_re (fun e9 => absurd (e9.symm.trans (h20)) (by simp)) (fun j9 e9 => ?_)
        rw [show j9 = j + 2 from Option.some.inj (e9.symm.trans (h20))]
        refine lv_astore (lv' := [(4, .ref (ad 25 (j + 2))), (0, .ref (ad 6 0)), (1, .int day), (2, .ref (ad 25 fo)), (3, .int x3)]) hx hb dX4_inForce_21 hl (by decide) rfl (fun ls hl => ?_)
        refine lv_aload hx hb dX4_inForce_23 (lv_at hl 0 rfl) ?_
        refine lv_ifnull hx hb dX4_inForce_25 ?_
        refine lv_aload hx hb dX4_inForce_28 (lv_at hl 0 rfl) ?_
        refine cg_X6_firstDay (i := j + 2) hx hb hts hin6 hown hK hP ((hR 25 (j + 2)).mpr (Nat.add_lt_add_right hjn 2)) (by decide +kernel) dX4_inForce_30 ?_
        refine lv_iload_n hx hb dX4_inForce_33 rfl (lv_at hl 2 rfl) ?_
        refine lv_icmp_gt (tgt := 52) hx hb dX4_inForce_34 (by decide) (fun c_34 => ?_) (fun c_34 => ?_)
        · obtain ⟨x3_1, ex3_1⟩ : ∃ z : Int32, z = x3 + 1 := ⟨_, rfl⟩
          refine lv_iinc (v := x3_1) (lv' := [(3, .int x3_1), (4, .ref (ad 25 (j + 2))), (0, .ref (ad 6 0)), (1, .int day), (2, .ref (ad 25 fo))]) hx hb dX4_inForce_52 hl (k := 4) rfl (by rw [ex3_1]; rfl) (by decide) rfl (fun ls hl => ?_)
          refine lv_goto (tgt := 7) hx hb dX4_inForce_55 (by decide) ?_
          exact ih_7 (j + 1) (fo) _ (by omega) (by omega) (by rw [ex3_1, ex3]; exact nI_1 _) hfo (by rw [cFo, if_neg (fun q => absurd c_34 (Int32.not_lt.mpr q.1)), hfe]) _ _ hP hD hS _ (lv_sub hl [2, 3, 4, 0] rfl)
        · refine lv_aload hx hb dX4_inForce_37 (lv_at hl 0 rfl) ?_
          refine cg_X6_firstDay (i := j + 2) hx hb hts hin6 hown hK hP ((hR 25 (j + 2)).mpr (Nat.add_lt_add_right hjn 2)) (by decide +kernel) dX4_inForce_39 ?_
          refine lv_aload_n hx hb dX4_inForce_42 rfl (lv_at hl 3 rfl) ?_
          refine cg_X6_firstDay (i := fo) hx hb hts hin6 hown hK hP ((hR 25 (fo)).mpr hfo) (by decide +kernel) dX4_inForce_43 ?_
          refine lv_icmp_lt (tgt := 52) hx hb dX4_inForce_46 (by decide) (fun c_46 => ?_) (fun c_46 => ?_)
          · obtain ⟨x3_2, ex3_2⟩ : ∃ z : Int32, z = x3 + 1 := ⟨_, rfl⟩
            refine lv_iinc (v := x3_2) (lv' := [(3, .int x3_2), (4, .ref (ad 25 (j + 2))), (0, .ref (ad 6 0)), (1, .int day), (2, .ref (ad 25 fo))]) hx hb dX4_inForce_52 hl (k := 4) rfl (by rw [ex3_2]; rfl) (by decide) rfl (fun ls hl => ?_)
            refine lv_goto (tgt := 7) hx hb dX4_inForce_55 (by decide) ?_
            exact ih_7 (j + 1) (fo) _ (by omega) (by omega) (by rw [ex3_2, ex3]; exact nI_1 _) hfo (by rw [cFo, if_neg (fun q => absurd c_46 (by rw [hfe]; exact Int32.not_lt.mpr q.2)), hfe]) _ _ hP hD hS _ (lv_sub hl [2, 3, 4, 0] rfl)
          · refine lv_aload hx hb dX4_inForce_49 (lv_at hl 0 rfl) ?_
            refine lv_astore_n (lv' := [(2, .ref (ad 25 (j + 2))), (4, .ref (ad 25 (j + 2))), (0, .ref (ad 6 0)), (1, .int day), (3, .int x3)]) hx hb dX4_inForce_51 rfl hl (by decide) rfl (fun ls hl => ?_)
            obtain ⟨x3_3, ex3_3⟩ : ∃ z : Int32, z = x3 + 1 := ⟨_, rfl⟩
            refine lv_iinc (v := x3_3) (lv' := [(3, .int x3_3), (2, .ref (ad 25 (j + 2))), (4, .ref (ad 25 (j + 2))), (0, .ref (ad 6 0)), (1, .int day)]) hx hb dX4_inForce_52 hl (k := 4) rfl (by rw [ex3_3]; rfl) (by decide) rfl (fun ls hl => ?_)
            refine lv_goto (tgt := 7) hx hb dX4_inForce_55 (by decide) ?_
            exact ih_7 (j + 1) (j + 2) _ (by omega) (by omega) (by rw [ex3_3, ex3]; exact nI_1 _) (Nat.add_lt_add_right hjn 2) (by rw [cFo, if_pos ⟨Int32.not_lt.mp c_34, by rw [← hfe]; exact Int32.not_lt.mp c_46⟩]) _ _ hP hD hS _ (lv_sub hl [3, 4, 1, 0] rfl)
  exact lp_7 (nT + 1) 0 1 _ (Nat.zero_le _) (by omega) rfl (Nat.succ_lt_succ (Nat.zero_lt_succ _)) rfl _ _ hP hD hS _ (lv_sub hl [2, 3, 1, 0] rfl)
def cCt (x : cS) (k j : Nat) : Bool := decide (x.1 22 k j = 0) && !decide (x.1 21 k j = -1)
def cCv (x : cS) (k j : Nat) : Bool := cCt x k j && decide (x.1 21 k j = 1)
def cSk (x : cS) (k j : Nat) : Bool := !decide (x.1 22 k j = 0)
def cWt (x : cS) (k j : Nat) : Bool := decide (x.1 21 k j = -1) && decide (x.1 22 k j = 0)
theorem cnt_want (x : cS) (k : Nat) : ∀ n, cnt (cCt x k) n + cnt (cSk x k) n + cnt (cWt x k) n = n
  | 0 => rfl
  | n + 1 => by
    have ih := cnt_want x k n
    simp only [cnt, cCt, cSk, cWt] at ih ⊢
    by_cases h1 : x.1 22 k n = 0 <;> by_cases h2 : x.1 21 k n = -1 <;> simp [h1, h2] <;> omega
set_option maxHeartbeats 4000000 in
set_option maxRecDepth 100000 in
/-- Suit.counts -/
theorem ctX7_counts (l : Launch) (D : va_G) (y : Nat → ClassId) (ad : Nat → Nat → Nat) (x : cS) (R : List (Nat × Nat)) (qs : Nat → Nat × Nat) (nC nT : Nat) (hR : cHas R nC nT) (k : Nat) (n j : Nat) (i : Int32) (hk5 : k < 5) (hs : x.1 20 k 5 = nI n) (hn : n ≤ 25) (hj : j < n) (hi : i = nI j) : cMi l yX7_counts wsX7_counts ({ frames := 0, cells := 0, slots := 0, locals := 0 }) D y ad x R qs [.ref (ad 20 k), .int i] (fun r x' => r = zI (cCt x k j) ∧ x' = x) := by
  refine cMi_of (cc := cX7_counts) (maxL := 2) (ret := (some .boolean)) (by decide) rfl (Nat.le_of_ble_eq_true rfl) ?_
  intro p e s m below meth c A ls hat hAe hl
  obtain ⟨hx, hb, hr, hml, hts, hown, hlocks, hK, hP, hD, hA, hE⟩ := hat
  have hown : s.vm.findClass RX7 = some m.cls := hown
  have hin7 : ∀ w ∈ wsX70, w ∈ wsX7_counts := fun _ h9 => List.mem_cons_of_mem _ (List.mem_append_right _ h9)
  have hl : lv_has ls 2 [(0, .ref (ad 20 k)), (1, .int i)] := hl
  have hS : va_S A s.heap s.heap [] := va_S.rf
  have hc : i.toNatClampNeg = j := by rw [hi]; exact nI_clamp (by omega)
  refine lv_iload_n hx hb dX7_counts_0 rfl (lv_at hl 1 rfl) ?_
  refine lv_if_lt (tgt := 35) hx hb dX7_counts_1 (by decide) (fun c_1 => ?_) (fun c_1 => ?_)
  · exact absurd c_1 (by rw [hi]; exact nI_pos (by omega))
  · refine lv_iload_n hx hb dX7_counts_4 rfl (lv_at hl 1 rfl) ?_
    refine lv_aload_n hx hb dX7_counts_5 rfl (lv_at hl 0 rfl) ?_
    refine cg_X7_seats (i := k) hx hb hts hin7 hown hK hP ((hR 20 (k)).mpr hk5) (by decide +kernel) dX7_counts_6 ?_
    refine lv_icmp_ge (tgt := 35) hx hb dX7_counts_9 (by decide) (fun c_9 => ?_) (fun c_9 => ?_)
    · exact absurd c_9 (by rw [hs, hi]; exact nI_ge hj (by omega))
    · refine lv_aload_n hx hb dX7_counts_12 rfl (lv_at hl 0 rfl) ?_
      refine cg_X7_struck (i := k) hx hb hts hin7 hown hK hP ((hR 20 (k)).mpr hk5) (by decide +kernel) dX7_counts_13 ?_
      refine lv_iload_n hx hb dX7_counts_16 rfl (lv_at hl 1 rfl) ?_
      refine cl_bool 22 (k) 25 hx hb hK hP ((hR 22 (k)).mpr hk5) (fun _ _ _ => rfl) (by rw [hi]; exact vp_in_nI (by omega) (by omega)) dX7_counts_17 ?_
      refine lv_if_ne (tgt := 35) hx hb dX7_counts_18 (by decide) (fun c_18 => ?_) (fun c_18 => ?_)
      · rw [hc] at c_18
        refine lv_iconst (v := 0) hx hb dX7_counts_35 (by decide) ?_
        exact c_reti hx hb hr hlocks hAe hK hP hD hS (by first | rfl | decide) dX7_counts_36 (⟨by simp [zI, cCt, c_18], rfl⟩)
      · rw [hc] at c_18
        refine lv_aload_n hx hb dX7_counts_21 rfl (lv_at hl 0 rfl) ?_
        refine cg_X7_discs (i := k) hx hb hts hin7 hown hK hP ((hR 20 (k)).mpr hk5) (by decide +kernel) dX7_counts_22 ?_
        refine lv_iload_n hx hb dX7_counts_25 rfl (lv_at hl 1 rfl) ?_
        refine cl_int 21 (k) 25 hx hb hK hP ((hR 21 (k)).mpr hk5) (fun _ _ _ => rfl) (by rw [hi]; exact vp_in_nI (by omega) (by omega)) dX7_counts_26 ?_
        refine lv_iconst (v := (-1)) hx hb dX7_counts_27 (by decide) ?_
        refine lv_icmp_eq (tgt := 35) hx hb dX7_counts_28 (by decide) (fun c_28 => ?_) (fun c_28 => ?_)
        · rw [hc] at c_28
          refine lv_iconst (v := 0) hx hb dX7_counts_35 (by decide) ?_
          exact c_reti hx hb hr hlocks hAe hK hP hD hS (by first | rfl | decide) dX7_counts_36 (⟨by simp [zI, cCt, c_18, c_28], rfl⟩)
        · rw [hc] at c_28
          refine lv_iconst (v := 1) hx hb dX7_counts_31 (by decide) ?_
          refine lv_goto (tgt := 36) hx hb dX7_counts_32 (by decide) ?_
          exact c_reti hx hb hr hlocks hAe hK hP hD hS (by first | rfl | decide) dX7_counts_36 (⟨by simp [zI, cCt, c_18, c_28], rfl⟩)
set_option maxHeartbeats 4000000 in
set_option maxRecDepth 100000 in
/-- Suit.counted -/
theorem ctX7_counted (l : Launch) (D : va_G) (y : Nat → ClassId) (ad : Nat → Nat → Nat) (x : cS) (R : List (Nat × Nat)) (qs : Nat → Nat × Nat) (nC nT : Nat) (hR : cHas R nC nT) (k : Nat) (n : Nat) (hk5 : k < 5) (hs : x.1 20 k 5 = nI n) (hn : n ≤ 25) : cMi l yX7_counted wsX7_counted ({ frames := 1, cells := 0, slots := 0, locals := 21 }) D y ad x R qs [.ref (ad 20 k)] (fun r x' => r = nI (cnt (cCt x k) n) ∧ x' = x) := by
  refine cMi_of (cc := cX7_counted) (maxL := 3) (ret := (some .int)) (by decide) rfl (Nat.le_of_ble_eq_true rfl) ?_
  intro p e s m below meth c A ls hat hAe hl
  obtain ⟨hx, hb, hr, hml, hts, hown, hlocks, hK, hP, hD, hA, hE⟩ := hat
  have hown : s.vm.findClass RX7 = some m.cls := hown
  have hin7 : ∀ w ∈ wsX70, w ∈ wsX7_counted := fun _ h9 => List.mem_cons_of_mem _ (List.mem_append_right _ h9)
  have hl : lv_has ls 3 [(0, .ref (ad 20 k))] := hl
  have hS : va_S A s.heap s.heap [] := va_S.rf
  refine lv_iconst (v := 0) hx hb dX7_counted_0 (by decide) ?_
  refine lv_istore_n (lv' := [(1, .int 0), (0, .ref (ad 20 k))]) hx hb dX7_counted_1 rfl hl (by decide) rfl (fun ls hl => ?_)
  refine lv_iconst (v := 0) hx hb dX7_counted_2 (by decide) ?_
  refine lv_istore_n (lv' := [(2, .int 0), (1, .int 0), (0, .ref (ad 20 k))]) hx hb dX7_counted_3 rfl hl (by decide) rfl (fun ls hl => ?_)
  have lp_4 : ∀ (n_4 : Nat) (j : Nat) (x1 : Int32) (x2 : Int32), (j ≤ n) → (n + 1 ≤ j + n_4) → (x2 = nI j) → (x1 = nI (cnt (cCt x k) j)) → ∀ (H : Heap) (locs : List Loc), va_P D vwCl (cW ad y x R) H → va_D A (cW ad y x R) → va_S A s.heap H locs → ∀ (ls : Array Slot), lv_has ls 3 [(0, .ref (ad 20 k)), (1, .int x1), (2, .int x2)] → W p l e (headSpec wsX7_counted ({ frames := 1, cells := 0, slots := 0, locals := 21 })).room s m ([.ref (ad 20 k)] : List Value).toArray below meth c H locs 0 0 (MQ below (va_Qi (fun r x' => r = nI (cnt (cCt x k) n) ∧ x' = x) (cEnd D y ad R s.heap.size) A) ([.ref (ad 20 k)] : List Value).toArray s 0 0 A) (F0 m 4 ls []) := by
    intro n_4
    induction n_4 with
    | zero =>
      intro j x1 x2 hj hf ex2 ex1
      exact absurd hf (by omega)
    | succ n_4 ih_4 =>
      intro j x1 x2 hj hf ex2 ex1 H locs hP hD hS ls hl
      refine lv_iload_n hx hb dX7_counted_4 rfl (lv_at hl 2 rfl) ?_
      refine lv_aload_n hx hb dX7_counted_5 rfl (lv_at hl 0 rfl) ?_
      refine cg_X7_seats (i := k) hx hb hts hin7 hown hK hP ((hR 20 (k)).mpr hk5) (by decide +kernel) dX7_counted_6 ?_
      refine lv_icmp_ge (tgt := 34) hx hb dX7_counted_9 (by decide) (fun c_9 => ?_) (fun c_9 => ?_)
      · have hjn : j = n := by rw [hs, ex2] at c_9; have := (nI_leI (by omega) (by omega)).mp c_9; omega
        refine lv_iload_n hx hb dX7_counted_34 rfl (lv_at hl 1 rfl) ?_
        exact c_reti hx hb hr hlocks hAe hK hP hD hS rfl dX7_counted_35 (⟨by rw [ex1, hjn], rfl⟩)
      · have hjn : j < n := by rw [hs, ex2] at c_9; exact Nat.not_le.mp (fun q9 => c_9 (nI_le q9 (by omega)))
        have hc2 : x2.toNatClampNeg = j := by rw [ex2]; exact nI_clamp (by omega)
        refine lv_iload_n hx hb dX7_counted_12 rfl (lv_at hl 1 rfl) ?_
        refine lv_aload_n hx hb dX7_counted_13 rfl (lv_at hl 0 rfl) ?_
        refine lv_iload_n hx hb dX7_counted_14 rfl (lv_at hl 2 rfl) ?_
        refine c_callip (ci := 7) (q := (RX7, TX7, 16)) (κ := 20) (i := k) (As := [.int x2]) (rest := [.int x1]) ⟨hx, hb, hml, hown, hts⟩ (ctX7_counts l D y ad x R qs nC nT hR k n j _ hk5 hs hn hjn ex2) (cwV 1 hts gX7_counted_X7_counts rfl rfl rfl (by decide +kernel) ⟨Nat.le_of_ble_eq_true rfl, Nat.le_of_ble_eq_true rfl⟩) ((hR 20 (k)).mpr hk5) (fun _ _ _ => ⟨_, rfl⟩) rfl hE hK hP hD hS hA rfl hl.1 rfl (Nat.le_of_ble_eq_true rfl) dX7_counted_15 ⟨Nat.zero_le _, Nat.zero_le _⟩ (fun H locs hP hD hS => ?_)
        refine lv_if_eq (tgt := 25) hx hb dX7_counted_18 (by decide) (fun c_18 => ?_) (fun c_18 => ?_)
        · have b18 : cCt x k j = false := (zI_eq _).mp c_18
          refine lv_iconst (v := 0) hx hb dX7_counted_25 (by decide) ?_
          refine lv_iadd hx hb dX7_counted_26 ?_
          refine lv_topi (fun x1_1 ex1_1 => ?_)
          refine lv_istore_n (lv' := [(1, .int x1_1), (0, .ref (ad 20 k)), (2, .int x2)]) hx hb dX7_counted_27 rfl hl (by decide) rfl (fun ls hl => ?_)
          obtain ⟨x2_2, ex2_2⟩ : ∃ z : Int32, z = x2 + 1 := ⟨_, rfl⟩
          refine lv_iinc (v := x2_2) (lv' := [(2, .int x2_2), (1, .int x1_1), (0, .ref (ad 20 k))]) hx hb dX7_counted_28 hl (k := 2) rfl (by rw [ex2_2]; rfl) (by decide) rfl (fun ls hl => ?_)
          refine lv_goto (tgt := 4) hx hb dX7_counted_31 (by decide) ?_
          exact ih_4 (j + 1) _ _ (by omega) (by omega) (by rw [ex2_2, ex2]; exact nI_1 _) (by rw [ex1_1, ex1]; exact cnt_f (b18)) _ _ hP hD hS _ (lv_sub hl [2, 1, 0] rfl)
        · have b18 : cCt x k j = true := (zI_ne _).mp c_18
          refine lv_iconst (v := 1) hx hb dX7_counted_21 (by decide) ?_
          refine lv_goto (tgt := 26) hx hb dX7_counted_22 (by decide) ?_
          refine lv_iadd hx hb dX7_counted_26 ?_
          refine lv_topi (fun x1_3 ex1_3 => ?_)
          refine lv_istore_n (lv' := [(1, .int x1_3), (0, .ref (ad 20 k)), (2, .int x2)]) hx hb dX7_counted_27 rfl hl (by decide) rfl (fun ls hl => ?_)
          obtain ⟨x2_4, ex2_4⟩ : ∃ z : Int32, z = x2 + 1 := ⟨_, rfl⟩
          refine lv_iinc (v := x2_4) (lv' := [(2, .int x2_4), (1, .int x1_3), (0, .ref (ad 20 k))]) hx hb dX7_counted_28 hl (k := 2) rfl (by rw [ex2_4]; rfl) (by decide) rfl (fun ls hl => ?_)
          refine lv_goto (tgt := 4) hx hb dX7_counted_31 (by decide) ?_
          exact ih_4 (j + 1) _ _ (by omega) (by omega) (by rw [ex2_4, ex2]; exact nI_1 _) (by rw [ex1_3, ex1]; exact cnt_t (b18)) _ _ hP hD hS _ (lv_sub hl [2, 1, 0] rfl)
  exact lp_4 (n + 1) 0 _ _ (Nat.zero_le _) (by omega) rfl rfl _ _ hP hD hS _ (lv_sub hl [2, 1, 0] rfl)
set_option maxHeartbeats 4000000 in
set_option maxRecDepth 100000 in
/-- Suit.convicting -/
theorem ctX7_convicting (l : Launch) (D : va_G) (y : Nat → ClassId) (ad : Nat → Nat → Nat) (x : cS) (R : List (Nat × Nat)) (qs : Nat → Nat × Nat) (nC nT : Nat) (hR : cHas R nC nT) (k : Nat) (n : Nat) (hk5 : k < 5) (hs : x.1 20 k 5 = nI n) (hn : n ≤ 25) : cMi l yX7_convicting wsX7_convicting ({ frames := 1, cells := 0, slots := 0, locals := 21 }) D y ad x R qs [.ref (ad 20 k)] (fun r x' => r = nI (cnt (cCv x k) n) ∧ x' = x) := by
  refine cMi_of (cc := cX7_convicting) (maxL := 3) (ret := (some .int)) (by decide) rfl (Nat.le_of_ble_eq_true rfl) ?_
  intro p e s m below meth c A ls hat hAe hl
  obtain ⟨hx, hb, hr, hml, hts, hown, hlocks, hK, hP, hD, hA, hE⟩ := hat
  have hown : s.vm.findClass RX7 = some m.cls := hown
  have hin7 : ∀ w ∈ wsX70, w ∈ wsX7_convicting := fun _ h9 => List.mem_cons_of_mem _ (List.mem_append_right _ h9)
  have hl : lv_has ls 3 [(0, .ref (ad 20 k))] := hl
  have hS : va_S A s.heap s.heap [] := va_S.rf
  refine lv_iconst (v := 0) hx hb dX7_convicting_0 (by decide) ?_
  refine lv_istore_n (lv' := [(1, .int 0), (0, .ref (ad 20 k))]) hx hb dX7_convicting_1 rfl hl (by decide) rfl (fun ls hl => ?_)
  refine lv_iconst (v := 0) hx hb dX7_convicting_2 (by decide) ?_
  refine lv_istore_n (lv' := [(2, .int 0), (1, .int 0), (0, .ref (ad 20 k))]) hx hb dX7_convicting_3 rfl hl (by decide) rfl (fun ls hl => ?_)
  have lp_4 : ∀ (n_4 : Nat) (j : Nat) (x1 : Int32) (x2 : Int32), (j ≤ n) → (n + 1 ≤ j + n_4) → (x2 = nI j) → (x1 = nI (cnt (cCv x k) j)) → ∀ (H : Heap) (locs : List Loc), va_P D vwCl (cW ad y x R) H → va_D A (cW ad y x R) → va_S A s.heap H locs → ∀ (ls : Array Slot), lv_has ls 3 [(0, .ref (ad 20 k)), (1, .int x1), (2, .int x2)] → W p l e (headSpec wsX7_convicting ({ frames := 1, cells := 0, slots := 0, locals := 21 })).room s m ([.ref (ad 20 k)] : List Value).toArray below meth c H locs 0 0 (MQ below (va_Qi (fun r x' => r = nI (cnt (cCv x k) n) ∧ x' = x) (cEnd D y ad R s.heap.size) A) ([.ref (ad 20 k)] : List Value).toArray s 0 0 A) (F0 m 4 ls []) := by
    intro n_4
    induction n_4 with
    | zero =>
      intro j x1 x2 hj hf ex2 ex1
      exact absurd hf (by omega)
    | succ n_4 ih_4 =>
      intro j x1 x2 hj hf ex2 ex1 H locs hP hD hS ls hl
      refine lv_iload_n hx hb dX7_convicting_4 rfl (lv_at hl 2 rfl) ?_
      refine lv_aload_n hx hb dX7_convicting_5 rfl (lv_at hl 0 rfl) ?_
      refine cg_X7_seats (i := k) hx hb hts hin7 hown hK hP ((hR 20 (k)).mpr hk5) (by decide +kernel) dX7_convicting_6 ?_
      refine lv_icmp_ge (tgt := 44) hx hb dX7_convicting_9 (by decide) (fun c_9 => ?_) (fun c_9 => ?_)
      · have hjn : j = n := by rw [hs, ex2] at c_9; have := (nI_leI (by omega) (by omega)).mp c_9; omega
        refine lv_iload_n hx hb dX7_convicting_44 rfl (lv_at hl 1 rfl) ?_
        exact c_reti hx hb hr hlocks hAe hK hP hD hS rfl dX7_convicting_45 (⟨by rw [ex1, hjn], rfl⟩)
      · have hjn : j < n := by rw [hs, ex2] at c_9; exact Nat.not_le.mp (fun q9 => c_9 (nI_le q9 (by omega)))
        have hc2 : x2.toNatClampNeg = j := by rw [ex2]; exact nI_clamp (by omega)
        refine lv_iload_n hx hb dX7_convicting_12 rfl (lv_at hl 1 rfl) ?_
        refine lv_aload_n hx hb dX7_convicting_13 rfl (lv_at hl 0 rfl) ?_
        refine lv_iload_n hx hb dX7_convicting_14 rfl (lv_at hl 2 rfl) ?_
        refine c_callip (ci := 7) (q := (RX7, TX7, 16)) (κ := 20) (i := k) (As := [.int x2]) (rest := [.int x1]) ⟨hx, hb, hml, hown, hts⟩ (ctX7_counts l D y ad x R qs nC nT hR k n j _ hk5 hs hn hjn ex2) (cwV 1 hts gX7_convicting_X7_counts rfl rfl rfl (by decide +kernel) ⟨Nat.le_of_ble_eq_true rfl, Nat.le_of_ble_eq_true rfl⟩) ((hR 20 (k)).mpr hk5) (fun _ _ _ => ⟨_, rfl⟩) rfl hE hK hP hD hS hA rfl hl.1 rfl (Nat.le_of_ble_eq_true rfl) dX7_convicting_15 ⟨Nat.zero_le _, Nat.zero_le _⟩ (fun H locs hP hD hS => ?_)
        refine lv_if_eq (tgt := 35) hx hb dX7_convicting_18 (by decide) (fun c_18 => ?_) (fun c_18 => ?_)
        · have b18 : cCt x k j = false := (zI_eq _).mp c_18
          refine lv_iconst (v := 0) hx hb dX7_convicting_35 (by decide) ?_
          refine lv_iadd hx hb dX7_convicting_36 ?_
          refine lv_topi (fun x1_1 ex1_1 => ?_)
          refine lv_istore_n (lv' := [(1, .int x1_1), (0, .ref (ad 20 k)), (2, .int x2)]) hx hb dX7_convicting_37 rfl hl (by decide) rfl (fun ls hl => ?_)
          obtain ⟨x2_2, ex2_2⟩ : ∃ z : Int32, z = x2 + 1 := ⟨_, rfl⟩
          refine lv_iinc (v := x2_2) (lv' := [(2, .int x2_2), (1, .int x1_1), (0, .ref (ad 20 k))]) hx hb dX7_convicting_38 hl (k := 2) rfl (by rw [ex2_2]; rfl) (by decide) rfl (fun ls hl => ?_)
          refine lv_goto (tgt := 4) hx hb dX7_convicting_41 (by decide) ?_
          exact ih_4 (j + 1) _ _ (by omega) (by omega) (by rw [ex2_2, ex2]; exact nI_1 _) (by rw [ex1_1, ex1]; exact cnt_f (by simp [cCv, b18])) _ _ hP hD hS _ (lv_sub hl [2, 1, 0] rfl)
        · have b18 : cCt x k j = true := (zI_ne _).mp c_18
          refine lv_aload_n hx hb dX7_convicting_21 rfl (lv_at hl 0 rfl) ?_
          refine cg_X7_discs (i := k) hx hb hts hin7 hown hK hP ((hR 20 (k)).mpr hk5) (by decide +kernel) dX7_convicting_22 ?_
          refine lv_iload_n hx hb dX7_convicting_25 rfl (lv_at hl 2 rfl) ?_
          refine cl_int 21 (k) 25 hx hb hK hP ((hR 21 (k)).mpr hk5) (fun _ _ _ => rfl) (by rw [ex2]; exact vp_in_nI (by omega) (by omega)) dX7_convicting_26 ?_
          refine lv_iconst (v := 1) hx hb dX7_convicting_27 (by decide) ?_
          refine lv_icmp_ne (tgt := 35) hx hb dX7_convicting_28 (by decide) (fun c_28 => ?_) (fun c_28 => ?_)
          · rw [hc2] at c_28
            refine lv_iconst (v := 0) hx hb dX7_convicting_35 (by decide) ?_
            refine lv_iadd hx hb dX7_convicting_36 ?_
            refine lv_topi (fun x1_3 ex1_3 => ?_)
            refine lv_istore_n (lv' := [(1, .int x1_3), (0, .ref (ad 20 k)), (2, .int x2)]) hx hb dX7_convicting_37 rfl hl (by decide) rfl (fun ls hl => ?_)
            obtain ⟨x2_4, ex2_4⟩ : ∃ z : Int32, z = x2 + 1 := ⟨_, rfl⟩
            refine lv_iinc (v := x2_4) (lv' := [(2, .int x2_4), (1, .int x1_3), (0, .ref (ad 20 k))]) hx hb dX7_convicting_38 hl (k := 2) rfl (by rw [ex2_4]; rfl) (by decide) rfl (fun ls hl => ?_)
            refine lv_goto (tgt := 4) hx hb dX7_convicting_41 (by decide) ?_
            exact ih_4 (j + 1) _ _ (by omega) (by omega) (by rw [ex2_4, ex2]; exact nI_1 _) (by rw [ex1_3, ex1]; exact cnt_f (by simp [cCv, c_28])) _ _ hP hD hS _ (lv_sub hl [2, 1, 0] rfl)
          · rw [hc2] at c_28
            refine lv_iconst (v := 1) hx hb dX7_convicting_31 (by decide) ?_
            refine lv_goto (tgt := 36) hx hb dX7_convicting_32 (by decide) ?_
            refine lv_iadd hx hb dX7_convicting_36 ?_
            refine lv_topi (fun x1_5 ex1_5 => ?_)
            refine lv_istore_n (lv' := [(1, .int x1_5), (0, .ref (ad 20 k)), (2, .int x2)]) hx hb dX7_convicting_37 rfl hl (by decide) rfl (fun ls hl => ?_)
            obtain ⟨x2_6, ex2_6⟩ : ∃ z : Int32, z = x2 + 1 := ⟨_, rfl⟩
            refine lv_iinc (v := x2_6) (lv' := [(2, .int x2_6), (1, .int x1_5), (0, .ref (ad 20 k))]) hx hb dX7_convicting_38 hl (k := 2) rfl (by rw [ex2_6]; rfl) (by decide) rfl (fun ls hl => ?_)
            refine lv_goto (tgt := 4) hx hb dX7_convicting_41 (by decide) ?_
            exact ih_4 (j + 1) _ _ (by omega) (by omega) (by rw [ex2_6, ex2]; exact nI_1 _) (by rw [ex1_5, ex1]; exact cnt_t (by simp [cCv, b18, c_28])) _ _ hP hD hS _ (lv_sub hl [2, 1, 0] rfl)
  exact lp_4 (n + 1) 0 _ _ (Nat.zero_le _) (by omega) rfl rfl _ _ hP hD hS _ (lv_sub hl [2, 1, 0] rfl)
set_option maxHeartbeats 4000000 in
set_option maxRecDepth 100000 in
/-- Suit.struckOut -/
theorem ctX7_struckOut (l : Launch) (D : va_G) (y : Nat → ClassId) (ad : Nat → Nat → Nat) (x : cS) (R : List (Nat × Nat)) (qs : Nat → Nat × Nat) (nC nT : Nat) (hR : cHas R nC nT) (k : Nat) (n : Nat) (hk5 : k < 5) (hs : x.1 20 k 5 = nI n) (hn : n ≤ 25) : cMi l yX7_struckOut wsX7_struckOut ({ frames := 0, cells := 0, slots := 0, locals := 0 }) D y ad x R qs [.ref (ad 20 k)] (fun r x' => r = nI (cnt (cSk x k) n) ∧ x' = x) := by
  refine cMi_of (cc := cX7_struckOut) (maxL := 3) (ret := (some .int)) (by decide) rfl (Nat.le_of_ble_eq_true rfl) ?_
  intro p e s m below meth c A ls hat hAe hl
  obtain ⟨hx, hb, hr, hml, hts, hown, hlocks, hK, hP, hD, hA, hE⟩ := hat
  have hown : s.vm.findClass RX7 = some m.cls := hown
  have hin7 : ∀ w ∈ wsX70, w ∈ wsX7_struckOut := fun _ h9 => List.mem_cons_of_mem _ (List.mem_append_right _ h9)
  have hl : lv_has ls 3 [(0, .ref (ad 20 k))] := hl
  have hS : va_S A s.heap s.heap [] := va_S.rf
  refine lv_iconst (v := 0) hx hb dX7_struckOut_0 (by decide) ?_
  refine lv_istore_n (lv' := [(1, .int 0), (0, .ref (ad 20 k))]) hx hb dX7_struckOut_1 rfl hl (by decide) rfl (fun ls hl => ?_)
  refine lv_iconst (v := 0) hx hb dX7_struckOut_2 (by decide) ?_
  refine lv_istore_n (lv' := [(2, .int 0), (1, .int 0), (0, .ref (ad 20 k))]) hx hb dX7_struckOut_3 rfl hl (by decide) rfl (fun ls hl => ?_)
  have lp_4 : ∀ (n_4 : Nat) (j : Nat) (x1 : Int32) (x2 : Int32), (j ≤ n) → (n + 1 ≤ j + n_4) → (x2 = nI j) → (x1 = nI (cnt (cSk x k) j)) → ∀ (H : Heap) (locs : List Loc), va_P D vwCl (cW ad y x R) H → va_D A (cW ad y x R) → va_S A s.heap H locs → ∀ (ls : Array Slot), lv_has ls 3 [(0, .ref (ad 20 k)), (1, .int x1), (2, .int x2)] → W p l e (headSpec wsX7_struckOut ({ frames := 0, cells := 0, slots := 0, locals := 0 })).room s m ([.ref (ad 20 k)] : List Value).toArray below meth c H locs 0 0 (MQ below (va_Qi (fun r x' => r = nI (cnt (cSk x k) n) ∧ x' = x) (cEnd D y ad R s.heap.size) A) ([.ref (ad 20 k)] : List Value).toArray s 0 0 A) (F0 m 4 ls []) := by
    intro n_4
    induction n_4 with
    | zero =>
      intro j x1 x2 hj hf ex2 ex1
      exact absurd hf (by omega)
    | succ n_4 ih_4 =>
      intro j x1 x2 hj hf ex2 ex1 H locs hP hD hS ls hl
      refine lv_iload_n hx hb dX7_struckOut_4 rfl (lv_at hl 2 rfl) ?_
      refine lv_aload_n hx hb dX7_struckOut_5 rfl (lv_at hl 0 rfl) ?_
      refine cg_X7_seats (i := k) hx hb hts hin7 hown hK hP ((hR 20 (k)).mpr hk5) (by decide +kernel) dX7_struckOut_6 ?_
      refine lv_icmp_ge (tgt := 35) hx hb dX7_struckOut_9 (by decide) (fun c_9 => ?_) (fun c_9 => ?_)
      · have hjn : j = n := by rw [hs, ex2] at c_9; have := (nI_leI (by omega) (by omega)).mp c_9; omega
        refine lv_iload_n hx hb dX7_struckOut_35 rfl (lv_at hl 1 rfl) ?_
        exact c_reti hx hb hr hlocks hAe hK hP hD hS rfl dX7_struckOut_36 (⟨by rw [ex1, hjn], rfl⟩)
      · have hjn : j < n := by rw [hs, ex2] at c_9; exact Nat.not_le.mp (fun q9 => c_9 (nI_le q9 (by omega)))
        have hc2 : x2.toNatClampNeg = j := by rw [ex2]; exact nI_clamp (by omega)
        refine lv_iload_n hx hb dX7_struckOut_12 rfl (lv_at hl 1 rfl) ?_
        refine lv_aload_n hx hb dX7_struckOut_13 rfl (lv_at hl 0 rfl) ?_
        refine cg_X7_struck (i := k) hx hb hts hin7 hown hK hP ((hR 20 (k)).mpr hk5) (by decide +kernel) dX7_struckOut_14 ?_
        refine lv_iload_n hx hb dX7_struckOut_17 rfl (lv_at hl 2 rfl) ?_
        refine cl_bool 22 (k) 25 hx hb hK hP ((hR 22 (k)).mpr hk5) (fun _ _ _ => rfl) (by rw [ex2]; exact vp_in_nI (by omega) (by omega)) dX7_struckOut_18 ?_
        refine lv_if_eq (tgt := 26) hx hb dX7_struckOut_19 (by decide) (fun c_19 => ?_) (fun c_19 => ?_)
        · rw [hc2] at c_19
          refine lv_iconst (v := 0) hx hb dX7_struckOut_26 (by decide) ?_
          refine lv_iadd hx hb dX7_struckOut_27 ?_
          refine lv_topi (fun x1_1 ex1_1 => ?_)
          refine lv_istore_n (lv' := [(1, .int x1_1), (0, .ref (ad 20 k)), (2, .int x2)]) hx hb dX7_struckOut_28 rfl hl (by decide) rfl (fun ls hl => ?_)
          obtain ⟨x2_2, ex2_2⟩ : ∃ z : Int32, z = x2 + 1 := ⟨_, rfl⟩
          refine lv_iinc (v := x2_2) (lv' := [(2, .int x2_2), (1, .int x1_1), (0, .ref (ad 20 k))]) hx hb dX7_struckOut_29 hl (k := 2) rfl (by rw [ex2_2]; rfl) (by decide) rfl (fun ls hl => ?_)
          refine lv_goto (tgt := 4) hx hb dX7_struckOut_32 (by decide) ?_
          exact ih_4 (j + 1) _ _ (by omega) (by omega) (by rw [ex2_2, ex2]; exact nI_1 _) (by rw [ex1_1, ex1]; exact cnt_f (by simp [cSk, c_19])) _ _ hP hD hS _ (lv_sub hl [2, 1, 0] rfl)
        · rw [hc2] at c_19
          refine lv_iconst (v := 1) hx hb dX7_struckOut_22 (by decide) ?_
          refine lv_goto (tgt := 27) hx hb dX7_struckOut_23 (by decide) ?_
          refine lv_iadd hx hb dX7_struckOut_27 ?_
          refine lv_topi (fun x1_3 ex1_3 => ?_)
          refine lv_istore_n (lv' := [(1, .int x1_3), (0, .ref (ad 20 k)), (2, .int x2)]) hx hb dX7_struckOut_28 rfl hl (by decide) rfl (fun ls hl => ?_)
          obtain ⟨x2_4, ex2_4⟩ : ∃ z : Int32, z = x2 + 1 := ⟨_, rfl⟩
          refine lv_iinc (v := x2_4) (lv' := [(2, .int x2_4), (1, .int x1_3), (0, .ref (ad 20 k))]) hx hb dX7_struckOut_29 hl (k := 2) rfl (by rw [ex2_4]; rfl) (by decide) rfl (fun ls hl => ?_)
          refine lv_goto (tgt := 4) hx hb dX7_struckOut_32 (by decide) ?_
          exact ih_4 (j + 1) _ _ (by omega) (by omega) (by rw [ex2_4, ex2]; exact nI_1 _) (by rw [ex1_3, ex1]; exact cnt_t (by simp [cSk, c_19])) _ _ hP hD hS _ (lv_sub hl [2, 1, 0] rfl)
  exact lp_4 (n + 1) 0 _ _ (Nat.zero_le _) (by omega) rfl rfl _ _ hP hD hS _ (lv_sub hl [2, 1, 0] rfl)
set_option maxHeartbeats 4000000 in
set_option maxRecDepth 100000 in
/-- Suit.wanting -/
theorem ctX7_wanting (l : Launch) (D : va_G) (y : Nat → ClassId) (ad : Nat → Nat → Nat) (x : cS) (R : List (Nat × Nat)) (qs : Nat → Nat × Nat) (nC nT : Nat) (hR : cHas R nC nT) (k : Nat) (n : Nat) (hk5 : k < 5) (hs : x.1 20 k 5 = nI n) (hn : n ≤ 25) : cMi l yX7_wanting wsX7_wanting ({ frames := 2, cells := 0, slots := 0, locals := 43 }) D y ad x R qs [.ref (ad 20 k)] (fun r x' => r = nI (cnt (cWt x k) n) ∧ x' = x) := by
  refine cMi_of (cc := cX7_wanting) (maxL := 1) (ret := (some .int)) (by decide) rfl (Nat.le_of_ble_eq_true rfl) ?_
  intro p e s m below meth c A ls hat hAe hl
  obtain ⟨hx, hb, hr, hml, hts, hown, hlocks, hK, hP, hD, hA, hE⟩ := hat
  have hown : s.vm.findClass RX7 = some m.cls := hown
  have hin7 : ∀ w ∈ wsX70, w ∈ wsX7_wanting := fun _ h9 => List.mem_cons_of_mem _ (List.mem_append_right _ h9)
  have hl : lv_has ls 1 [(0, .ref (ad 20 k))] := hl
  have hS : va_S A s.heap s.heap [] := va_S.rf
  refine lv_aload_n hx hb dX7_wanting_0 rfl (lv_at hl 0 rfl) ?_
  refine cg_X7_seats (i := k) hx hb hts hin7 hown hK hP ((hR 20 (k)).mpr hk5) (by decide +kernel) dX7_wanting_1 ?_
  refine lv_aload_n hx hb dX7_wanting_4 rfl (lv_at hl 0 rfl) ?_
  refine c_callip (ci := 7) (q := (RX7, TX7, 16)) (κ := 20) (i := k) (As := []) (rest := [.int _]) ⟨hx, hb, hml, hown, hts⟩ (ctX7_counted l D y ad x R qs nC nT hR k n hk5 hs hn) (cwV 0 hts gX7_wanting_X7_counted rfl rfl rfl (by decide +kernel) ⟨Nat.le_of_ble_eq_true rfl, Nat.le_of_ble_eq_true rfl⟩) ((hR 20 (k)).mpr hk5) (fun _ _ _ => ⟨_, rfl⟩) rfl hE hK hP hD hS hA rfl hl.1 rfl (Nat.le_of_ble_eq_true rfl) dX7_wanting_5 ⟨Nat.zero_le _, Nat.zero_le _⟩ (fun H locs hP hD hS => ?_)
  refine lv_isub hx hb dX7_wanting_8 ?_
  refine lv_aload_n hx hb dX7_wanting_9 rfl (lv_at hl 0 rfl) ?_
  refine c_callip (ci := 7) (q := (RX7, TX7, 16)) (κ := 20) (i := k) (As := []) (rest := [.int _]) ⟨hx, hb, hml, hown, hts⟩ (ctX7_struckOut l D y ad x R qs nC nT hR k n hk5 hs hn) (cwV 0 hts gX7_wanting_X7_struckOut rfl rfl rfl (by decide +kernel) ⟨Nat.le_of_ble_eq_true rfl, Nat.le_of_ble_eq_true rfl⟩) ((hR 20 (k)).mpr hk5) (fun _ _ _ => ⟨_, rfl⟩) rfl hE hK hP hD hS hA rfl hl.1 rfl (Nat.le_of_ble_eq_true rfl) dX7_wanting_10 ⟨Nat.zero_le _, Nat.zero_le _⟩ (fun H locs hP hD hS => ?_)
  refine lv_isub hx hb dX7_wanting_13 ?_
  exact c_reti hx hb hr hlocks hAe hK hP hD hS rfl dX7_wanting_14 (⟨by rw [hs]; have h9 := cnt_want x k n; rw [pk_sub (by omega), pk_sub (by omega)]; congr 1; omega, rfl⟩)
def cDz (x : cS) (k j : Nat) (d : Int32) : cS := cI (cI x 21 k j d) 20 k 12 1
def cTk (x : cS) (k n : Nat) (i d : Int32) : Int32 × cS := if x.1 20 k 4 = 0 ∨ ¬ x.1 20 k 11 = 0 ∨ isC n i = false ∨ ¬ x.1 22 k (sI i) = 0 ∨ ¬ x.1 21 k (sI i) = -1 then (-4, x) else (nI (cnt (cWt (cDz x k (sI i) d) k) n), cDz x k (sI i) d)
set_option maxHeartbeats 4000000 in
set_option maxRecDepth 100000 in
/-- Suit.takeDisc -/
theorem ctX7_takeDisc (l : Launch) (D : va_G) (y : Nat → ClassId) (ad : Nat → Nat → Nat) (x : cS) (R : List (Nat × Nat)) (qs : Nat → Nat × Nat) (nC nT : Nat) (hR : cHas R nC nT) (k : Nat) (n : Nat) (i d : Int32) (hk5 : k < 5) (hs : x.1 20 k 5 = nI n) (hn : n ≤ 25) : cMi l yX7_takeDisc wsX7_takeDisc ({ frames := 3, cells := 0, slots := 0, locals := 63 }) D y ad x R qs [.ref (ad 20 k), .int i, .int d] (fun r x' => (r, x') = cTk x k n i d) := by
  refine cMi_of (cc := cX7_takeDisc) (maxL := 3) (ret := (some .int)) (by decide) rfl (Nat.le_of_ble_eq_true rfl) ?_
  intro p e s m below meth c A ls hat hAe hl
  obtain ⟨hx, hb, hr, hml, hts, hown, hlocks, hK, hP, hD, hA, hE⟩ := hat
  have hown : s.vm.findClass RX7 = some m.cls := hown
  have hin7 : ∀ w ∈ wsX70, w ∈ wsX7_takeDisc := fun _ h9 => List.mem_cons_of_mem _ (List.mem_append_right _ h9)
  have hl : lv_has ls 3 [(0, .ref (ad 20 k)), (1, .int i), (2, .int d)] := hl
  have hS : va_S A s.heap s.heap [] := va_S.rf
  refine lv_aload_n hx hb dX7_takeDisc_0 rfl (lv_at hl 0 rfl) ?_
  refine cg_X7_open (i := k) hx hb hts hin7 hown hK hP ((hR 20 (k)).mpr hk5) (by decide +kernel) dX7_takeDisc_1 ?_
  refine lv_if_eq (tgt := 26) hx hb dX7_takeDisc_4 (by decide) (fun c_4 => ?_) (fun c_4 => ?_)
  · refine lv_bipush (v := (-4)) hx hb dX7_takeDisc_26 (by decide) ?_
    exact c_reti hx hb hr hlocks hAe hK hP hD hS rfl dX7_takeDisc_28 (by rw [cTk, if_pos (by simp [c_4])])
  · refine lv_aload_n hx hb dX7_takeDisc_7 rfl (lv_at hl 0 rfl) ?_
    refine cg_X7_witnessHeard (i := k) hx hb hts hin7 hown hK hP ((hR 20 (k)).mpr hk5) (by decide +kernel) dX7_takeDisc_8 ?_
    refine lv_if_ne (tgt := 26) hx hb dX7_takeDisc_11 (by decide) (fun c_11 => ?_) (fun c_11 => ?_)
    · refine lv_bipush (v := (-4)) hx hb dX7_takeDisc_26 (by decide) ?_
      exact c_reti hx hb hr hlocks hAe hK hP hD hS rfl dX7_takeDisc_28 (by rw [cTk, if_pos (by simp [c_4, c_11])])
    · refine lv_iload_n hx hb dX7_takeDisc_14 rfl (lv_at hl 1 rfl) ?_
      refine lv_if_lt (tgt := 26) hx hb dX7_takeDisc_15 (by decide) (fun c_15 => ?_) (fun c_15 => ?_)
      · have g1 : isC n i = false := isC_neg (by omega) c_15
        refine lv_bipush (v := (-4)) hx hb dX7_takeDisc_26 (by decide) ?_
        exact c_reti hx hb hr hlocks hAe hK hP hD hS rfl dX7_takeDisc_28 (by rw [cTk, if_pos (by simp [c_4, c_11, g1])])
      · refine lv_iload_n hx hb dX7_takeDisc_18 rfl (lv_at hl 1 rfl) ?_
        refine lv_aload_n hx hb dX7_takeDisc_19 rfl (lv_at hl 0 rfl) ?_
        refine cg_X7_seats (i := k) hx hb hts hin7 hown hK hP ((hR 20 (k)).mpr hk5) (by decide +kernel) dX7_takeDisc_20 ?_
        refine lv_icmp_lt (tgt := 29) hx hb dX7_takeDisc_23 (by decide) (fun c_23 => ?_) (fun c_23 => ?_)
        · rw [hs] at c_23
          obtain ⟨g1, g2, g3⟩ := isC_lt (by omega) c_15 (Int32.not_le.mpr c_23)
          refine lv_aload_n hx hb dX7_takeDisc_29 rfl (lv_at hl 0 rfl) ?_
          refine cg_X7_struck (i := k) hx hb hts hin7 hown hK hP ((hR 20 (k)).mpr hk5) (by decide +kernel) dX7_takeDisc_30 ?_
          refine lv_iload_n hx hb dX7_takeDisc_33 rfl (lv_at hl 1 rfl) ?_
          refine cl_bool 22 (k) 25 hx hb hK hP ((hR 22 (k)).mpr hk5) (fun _ _ _ => rfl) (sn_in g3 g2 hn (by omega)) dX7_takeDisc_34 ?_
          refine lv_if_ne (tgt := 48) hx hb dX7_takeDisc_35 (by decide) (fun c_35 => ?_) (fun c_35 => ?_)
          · refine lv_bipush (v := (-4)) hx hb dX7_takeDisc_48 (by decide) ?_
            exact c_reti hx hb hr hlocks hAe hK hP hD hS rfl dX7_takeDisc_50 (by rw [cTk, if_pos (by simp [c_4, c_11, c_35])])
          · refine lv_aload_n hx hb dX7_takeDisc_38 rfl (lv_at hl 0 rfl) ?_
            refine cg_X7_discs (i := k) hx hb hts hin7 hown hK hP ((hR 20 (k)).mpr hk5) (by decide +kernel) dX7_takeDisc_39 ?_
            refine lv_iload_n hx hb dX7_takeDisc_42 rfl (lv_at hl 1 rfl) ?_
            refine cl_int 21 (k) 25 hx hb hK hP ((hR 21 (k)).mpr hk5) (fun _ _ _ => rfl) (sn_in g3 g2 hn (by omega)) dX7_takeDisc_43 ?_
            refine lv_iconst (v := (-1)) hx hb dX7_takeDisc_44 (by decide) ?_
            refine lv_icmp_eq (tgt := 51) hx hb dX7_takeDisc_45 (by decide) (fun c_45 => ?_) (fun c_45 => ?_)
            · refine lv_aload_n hx hb dX7_takeDisc_51 rfl (lv_at hl 0 rfl) ?_
              refine cg_X7_discs (i := k) hx hb hts hin7 hown hK hP ((hR 20 (k)).mpr hk5) (by decide +kernel) dX7_takeDisc_52 ?_
              refine lv_iload_n hx hb dX7_takeDisc_55 rfl (lv_at hl 1 rfl) ?_
              refine lv_iload_n hx hb dX7_takeDisc_56 rfl (lv_at hl 2 rfl) ?_
              refine cs_int 21 (k) 25 hx hb hK hP hD hS ((hR 21 (k)).mpr hk5) (fun _ _ _ => rfl) (sn_in g3 g2 hn (by omega)) dX7_takeDisc_57 (fun H locs hP hD hS => ?_)
              refine lv_aload_n hx hb dX7_takeDisc_58 rfl (lv_at hl 0 rfl) ?_
              refine lv_iconst (v := 1) hx hb dX7_takeDisc_59 (by decide) ?_
              refine cp_X7_discTold (i := k) hx hb hts hin7 hown hK hP hD hS ((hR 20 (k)).mpr hk5) (by decide) (by decide +kernel) dX7_takeDisc_60 (fun H locs hP hD hS => ?_)
              refine lv_aload_n hx hb dX7_takeDisc_63 rfl (lv_at hl 0 rfl) ?_
              refine c_callip (ci := 7) (q := (RX7, TX7, 16)) (κ := 20) (i := k) (As := []) (rest := []) ⟨hx, hb, hml, hown, hts⟩ (ctX7_wanting l D y ad (cDz x k (sI i) d) R qs nC nT hR k n hk5 (by simp [cDz, cI_r, hs]) hn) (cwV 0 hts gX7_takeDisc_X7_wanting rfl rfl rfl (by decide +kernel) ⟨Nat.le_of_ble_eq_true rfl, Nat.le_of_ble_eq_true rfl⟩) ((hR 20 (k)).mpr hk5) (fun _ _ _ => ⟨_, rfl⟩) rfl hE hK hP hD hS hA rfl hl.1 rfl (Nat.le_of_ble_eq_true rfl) dX7_takeDisc_64 ⟨Nat.zero_le _, Nat.zero_le _⟩ (fun H locs hP hD hS => ?_)
              exact c_reti hx hb hr hlocks hAe hK hP hD hS rfl dX7_takeDisc_67 (by rw [cTk, if_neg (by simp [c_4, c_11, g1, c_35, c_45])])
            · refine lv_bipush (v := (-4)) hx hb dX7_takeDisc_48 (by decide) ?_
              exact c_reti hx hb hr hlocks hAe hK hP hD hS rfl dX7_takeDisc_50 (by rw [cTk, if_pos (by simp [c_4, c_11, c_35, c_45])])
        · rw [hs] at c_23
          have g1 : isC n i = false := isC_ge (by omega) (Int32.not_lt.mp c_23)
          refine lv_bipush (v := (-4)) hx hb dX7_takeDisc_26 (by decide) ?_
          exact c_reti hx hb hr hlocks hAe hK hP hD hS rfl dX7_takeDisc_28 (by rw [cTk, if_pos (by simp [c_4, c_11, g1])])
