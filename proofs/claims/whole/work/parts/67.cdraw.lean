/-! the landed program: Dawn.chooseRow, Dawn.chooseRows -/
theorem fOpt_some {p : Nat → Bool} {n c : Nat} {f : Nat → Nat} (h : fOpt p n f = some c) : ∃ i, i < n ∧ c = f i := by
  unfold fOpt at h
  split at h
  · rename_i h1; exact ⟨_, h1, (Option.some.inj h).symm⟩
  · cases h
def cCh (x : cS) (tk : Nat → Nat) (q : Nat) : Nat → cS
  | 0 => x
  | j + 1 => cI (cO (cI (cCh x tk q j) 24 (tk j) 8 1) 13 0 (q + j) (some (tk j))) 9 0 5 (nI (q + j + 1))
/-- what choosing keeps -/
def cKp (u x : cS) : Prop := (∀ a b c, ¬ (a = 24 ∧ c = 8) → ¬ (a = 9 ∧ c = 5) → u.1 a b c = x.1 a b c) ∧ u.2.1 = x.2.1 ∧ ∀ a b c, a ≠ 13 → u.2.2 a b c = x.2.2 a b c
theorem cKp.rf (x : cS) : cKp x x := ⟨fun _ _ _ _ _ => rfl, rfl, fun _ _ _ _ => rfl⟩
theorem cKp.tr {u v w : cS} (h : cKp u v) (g : cKp v w) : cKp u w := ⟨fun a b c h1 h2 => (h.1 a b c h1 h2).trans (g.1 a b c h1 h2), h.2.1.trans g.2.1, fun a b c h1 => (h.2.2 a b c h1).trans (g.2.2 a b c h1)⟩
theorem cCh_kp (x : cS) (tk : Nat → Nat) (q : Nat) : ∀ j, cKp (cCh x tk q j) x
  | 0 => cKp.rf x
  | j + 1 => by
    refine cKp.tr ?_ (cCh_kp x tk q j)
    rw [cCh]
    refine ⟨fun a b c h1 h2 => ?_, rfl, fun a b c h1 => ?_⟩
    · simp only [cI_r, cO_l]
      rw [if_neg (fun q => h2 ⟨q.1, q.2.2⟩), if_neg (fun q => h1 ⟨q.1, q.2.2⟩)]
    · simp only [cI_l, cO_r, h1, false_and, if_false]
theorem cCh_q {x : cS} {q : Nat} (h : x.1 9 0 5 = nI q) (tk : Nat → Nat) : ∀ j, (cCh x tk q j).1 9 0 5 = nI (q + j)
  | 0 => h
  | j + 1 => by rw [cCh]; simp [cI_r]; rfl
theorem cHo_kp {u x : cS} (h : cKp u x) (t w r : Int32) (c : Nat) : cHo u t w r c = cHo x t w r c := by
  simp only [cHo, h.1 24 c 1 (by simp) (by simp), h.1 24 c 2 (by simp) (by simp), h.1 24 c 7 (by simp) (by simp)]
set_option maxHeartbeats 4000000 in
set_option maxRecDepth 100000 in
/-- Dawn.chooseRow -/
theorem ctX3_chooseRow (l : Launch) (D : va_G) (y : Nat → ClassId) (ad : Nat → Nat → Nat) (x : cS) (R : List (Nat × Nat)) (qs : Nat → Nat × Nat) (nC nT : Nat) (hR : cHas R nC nT) (t row : Int32) (a q : Nat) (cm tk : Nat → Nat) (ha : x.1 9 0 4 = nI a) (ha1 : a ≤ 150) (hcm : ∀ i, i < a → x.2.2 10 0 i = some (cm i) ∧ cm i < nC) (hq : x.1 9 0 5 = nI q) (hq5 : q + 5 ≤ 150) (htk : ∀ w, w < 5 → fOpt (fun i => cHo x t (nI w) row (cm i)) a cm = some (tk w)) : cMv l yX3_chooseRow wsX3_chooseRow ({ frames := 2, cells := 0, slots := 0, locals := 48 }) D y ad x R qs [.ref (ad 9 0), .int t, .int row] (fun x' => x' = cCh x tk q 5) := by
  refine cMv_of (cc := cX3_chooseRow) (maxL := 5) (ret := none) (by decide) rfl (Nat.le_of_ble_eq_true rfl) ?_
  intro p e s m below meth c A ls hat hAe hl
  obtain ⟨hx, hb, hr, hml, hts, hown, hlocks, hK, hP, hD, hA, hE⟩ := hat
  have hown : s.vm.findClass RX3 = some m.cls := hown
  have hin3 : ∀ w ∈ wsX30, w ∈ wsX3_chooseRow := fun _ h9 => List.mem_cons_of_mem _ (List.mem_append_left _ (List.mem_append_right _ h9))
  have hin1 : ∀ w ∈ wsX10, w ∈ wsX3_chooseRow := fun _ h9 => List.mem_cons_of_mem _ (List.mem_append_right _ h9)
  have hl : lv_has ls 5 [(0, .ref (ad 9 0)), (1, .int t), (2, .int row)] := hl
  have hS : va_S A s.heap s.heap [] := va_S.rf
  refine lv_iconst (v := 0) hx hb dX3_chooseRow_0 (by decide) ?_
  refine lv_istore_n (lv' := [(3, .int 0), (0, .ref (ad 9 0)), (1, .int t), (2, .int row)]) hx hb dX3_chooseRow_1 rfl hl (by decide) rfl (fun ls hl => ?_)
  have lp_2 : ∀ (n_2 : Nat) (j : Nat) (u : cS) (x3 : Int32), (j ≤ 5) → (5 + 1 ≤ j + n_2) → (x3 = nI j) → (u = cCh x tk q j) → ∀ (H : Heap) (locs : List Loc), va_P D vwCl (cW ad y u R) H → va_D A (cW ad y u R) → va_S A s.heap H locs → ∀ (ls : Array Slot), lv_has ls 5 [(0, .ref (ad 9 0)), (1, .int t), (2, .int row), (3, .int x3)] → W p l e (headSpec wsX3_chooseRow ({ frames := 2, cells := 0, slots := 0, locals := 48 })).room s m ([.ref (ad 9 0), .int t, .int row] : List Value).toArray below meth c H locs 0 0 (MQ below (va_Qv (fun x' => x' = cCh x tk q 5) (cEnd D y ad R s.heap.size) A) ([.ref (ad 9 0), .int t, .int row] : List Value).toArray s 0 0 A) (F0 m 2 ls []) := by
    intro n_2
    induction n_2 with
    | zero =>
      intro j u x3 hj hf ex3 hu
      exact absurd hf (by omega)
    | succ n_2 ih_2 =>
      intro j u x3 hj hf ex3 hu H locs hP hD hS ls hl
      have hkp : cKp u x := by rw [hu]; exact cCh_kp x tk q j
      have hqu : u.1 9 0 5 = nI (q + j) := by rw [hu]; exact cCh_q hq tk j
      have hau : u.1 9 0 4 = nI a := by rw [hkp.1 9 0 4 (by simp) (by simp)]; exact ha
      have hcmu : ∀ i, i < a → u.2.2 10 0 i = some (cm i) ∧ cm i < nC := fun i hi => by rw [hkp.2.2 10 0 i (by decide)]; exact hcm i hi
      refine lv_iload_n hx hb dX3_chooseRow_2 rfl (lv_at hl 3 rfl) ?_
      refine lv_iconst (v := 5) hx hb dX3_chooseRow_3 (by decide) ?_
      refine lv_icmp_ge (tgt := 64) hx hb dX3_chooseRow_4 (by decide) (fun c_4 => ?_) (fun c_4 => ?_)
      · have hjn : j = 5 := by rw [ex3] at c_4; have := (nI_leI (a := 5) (by omega) (by omega)).mp c_4; omega
        exact c_retv hx hb hr hlocks hAe hK hP hD hS dX3_chooseRow_64 (by rw [hu, hjn])
      · have hjn : j < 5 := by rw [ex3] at c_4; exact Nat.not_le.mp (fun q9 => c_4 (nI_le (a := 5) q9 (by omega)))
        have h11 : fOpt (fun i => cHo u t x3 row (cm i)) a cm = some (tk j) := by rw [← htk j hjn, ex3]; exact congrArg (fun f => fOpt f a cm) (funext fun i => cHo_kp hkp t (nI j) row (cm i))
        have htc : tk j < nC := by obtain ⟨i9, hi9, e9⟩ := fOpt_some (htk j hjn); rw [e9]; exact (hcm i9 hi9).2
        refine lv_aload_n hx hb dX3_chooseRow_7 rfl (lv_at hl 0 rfl) ?_
        refine lv_iload_n hx hb dX3_chooseRow_8 rfl (lv_at hl 1 rfl) ?_
        refine lv_iload_n hx hb dX3_chooseRow_9 rfl (lv_at hl 3 rfl) ?_
        refine lv_iload_n hx hb dX3_chooseRow_10 rfl (lv_at hl 2 rfl) ?_
        refine c_callep (ci := 3) (q := (RX3, TX3, 7)) (κ := 9) (i := 0) (As := [.int t, .int x3, .int row]) (rest := []) ⟨hx, hb, hml, hown, hts⟩ (ctX3_ticketAt l D y ad u R qs nC nT hR t x3 row a cm hau ha1 hcmu) (cwV 3 hts gX3_chooseRow_X3_ticketAt rfl rfl rfl (by decide +kernel) ⟨Nat.le_of_ble_eq_true rfl, Nat.le_of_ble_eq_true rfl⟩) ((hR 9 (0)).mpr Nat.zero_lt_one) (fun _ _ _ => ⟨_, rfl⟩) rfl hE hK hP hD hS hA rfl hl.1 rfl (Nat.le_of_ble_eq_true rfl) dX3_chooseRow_11 ⟨Nat.zero_le _, Nat.zero_le _⟩ (fun H locs hP hD hS => ?_)
        refine lv_re (fun e9 => absurd (e9.symm.trans (h11)) (by simp)) (fun j9 e9 => ?_)
        rw [show j9 = tk j from Option.some.inj (e9.symm.trans (h11))]
        refine lv_astore (lv' := [(4, .ref (ad 24 (tk j))), (0, .ref (ad 9 0)), (1, .int t), (2, .int row), (3, .int x3)]) hx hb dX3_chooseRow_14 hl (by decide) rfl (fun ls hl => ?_)
        refine lv_aload hx hb dX3_chooseRow_16 (lv_at hl 0 rfl) ?_
        refine lv_ifnull hx hb dX3_chooseRow_18 ?_
        refine lv_aload_n hx hb dX3_chooseRow_21 rfl (lv_at hl 1 rfl) ?_
        refine cg_X3_chosenOnes (i := 0) hx hb hts hin3 hown hK hP ((hR 9 (0)).mpr Nat.zero_lt_one) (by decide +kernel) dX3_chooseRow_22 ?_
        refine lv_sipush (v := 150) hx hb dX3_chooseRow_25 (by decide) ?_
        refine lv_icmp_ge (tgt := 58) hx hb dX3_chooseRow_28 (by decide) (fun c_28 => ?_) (fun c_28 => ?_)
        · exact absurd c_28 (by rw [hqu]; exact nI_ge (b := 150) (by omega) (by omega))
        · refine lv_aload hx hb dX3_chooseRow_31 (lv_at hl 0 rfl) ?_
          refine lv_iconst (v := 1) hx hb dX3_chooseRow_33 (by decide) ?_
          refine cp_X1_chosen (i := tk j) hx hb hts hin1 hown hK hP hD hS ((hR 24 (tk j)).mpr htc) (by decide) (by decide +kernel) dX3_chooseRow_34 (fun H locs hP hD hS => ?_)
          refine lv_aload_n hx hb dX3_chooseRow_37 rfl (lv_at hl 1 rfl) ?_
          refine cg_X3_chosen (i := 0) hx hb hts hin3 hown hK hP ((hR 9 (0)).mpr Nat.zero_lt_one) (by decide +kernel) dX3_chooseRow_38 ?_
          refine lv_aload_n hx hb dX3_chooseRow_41 rfl (lv_at hl 1 rfl) ?_
          refine cg_X3_chosenOnes (i := 0) hx hb hts hin3 hown hK hP ((hR 9 (0)).mpr Nat.zero_lt_one) (by decide +kernel) dX3_chooseRow_42 ?_
          refine lv_aload hx hb dX3_chooseRow_45 (lv_at hl 0 rfl) ?_
          refine cs_ref 13 (0) 150 24 4 1 (tk j) hx hb hK hP hD hS ((hR 13 (0)).mpr Nat.zero_lt_one) (fun _ _ _ => rfl) rfl ((hR 24 (tk j)).mpr htc) (fun _ _ _ => ⟨_, rfl⟩) rfl (by rw [show (cI u 24 (tk j) 8 1).1 9 0 5 = nI (q + j) by simp [cI_r, hqu]]; exact vp_in_nI (by omega) (by omega)) dX3_chooseRow_47 (fun H locs hP hD hS => ?_)
          rw [show (cI u 24 (tk j) 8 1).1 9 0 5 = nI (q + j) by simp [cI_r, hqu], nI_clamp (by omega)] at hP hD
          refine lv_aload_n hx hb dX3_chooseRow_48 rfl (lv_at hl 1 rfl) ?_
          refine lv_dup hx hb dX3_chooseRow_49 rfl ?_
          refine cg_X3_chosenOnes (i := 0) hx hb hts hin3 hown hK hP ((hR 9 (0)).mpr Nat.zero_lt_one) (by decide +kernel) dX3_chooseRow_50 ?_
          refine lv_iconst (v := 1) hx hb dX3_chooseRow_53 (by decide) ?_
          refine lv_iadd hx hb dX3_chooseRow_54 ?_
          refine cp_X3_chosenOnes (i := 0) hx hb hts hin3 hown hK hP hD hS ((hR 9 (0)).mpr Nat.zero_lt_one) (by decide +kernel) dX3_chooseRow_55 (fun H locs hP hD hS => ?_)
          obtain ⟨x3_1, ex3_1⟩ : ∃ z : Int32, z = x3 + 1 := ⟨_, rfl⟩
          refine lv_iinc (v := x3_1) (lv' := [(3, .int x3_1), (4, .ref (ad 24 (tk j))), (0, .ref (ad 9 0)), (1, .int t), (2, .int row)]) hx hb dX3_chooseRow_58 hl (k := 4) rfl (by rw [ex3_1]; rfl) (by decide) rfl (fun ls hl => ?_)
          refine lv_goto (tgt := 2) hx hb dX3_chooseRow_61 (by decide) ?_
          exact ih_2 (j + 1) _ _ (by omega) (by omega) (by rw [ex3_1, ex3]; exact nI_1 _) (by rw [hu, cCh]; simp only [cI_r, cO_l, cCh_q hq, nI_1]; simp [cCh_q hq, nI_1]) _ _ hP hD hS _ (lv_sub hl [2, 3, 4, 0] rfl)
  exact lp_2 6 0 _ _ (Nat.zero_le _) (by omega) rfl rfl _ _ hP hD hS _ (lv_sub hl [1, 2, 3, 0] rfl)
section CD
variable (x : cS) (tk : Nat → Nat → Nat) (Rr ww : Nat) (num : Int64) (q : Nat)
def cDr : Nat → Int64 × Nat × cS
  | 0 => (num, ww, x)
  | r + 1 => if (cDr r).2.1 = 0 then cDr r else if (cDr r).1 < lN (ch (Rr - r - 1) ((cDr r).2.1 - 1)) then ((cDr r).1, (cDr r).2.1 - 1, cCh (cDr r).2.2 (tk r) (q + 5 * (ww - (cDr r).2.1)) 5) else ((cDr r).1 - lN (ch (Rr - r - 1) ((cDr r).2.1 - 1)), (cDr r).2.1, (cDr r).2.2)
theorem cDr_kp : ∀ r, cKp (cDr x tk Rr ww num q r).2.2 x ∧ (cDr x tk Rr ww num q r).2.1 ≤ ww
  | 0 => ⟨cKp.rf x, Nat.le_refl _⟩
  | r + 1 => by
    obtain ⟨h1, h2⟩ := cDr_kp r
    rw [cDr]
    split
    · exact ⟨h1, h2⟩
    · split
      · exact ⟨cKp.tr (cCh_kp _ _ _ 5) h1, Nat.le_trans (Nat.sub_le _ _) h2⟩
      · exact ⟨h1, h2⟩
theorem cDr_q (hq : x.1 9 0 5 = nI q) : ∀ r, (cDr x tk Rr ww num q r).2.2.1 9 0 5 = nI (q + 5 * (ww - (cDr x tk Rr ww num q r).2.1))
  | 0 => by rw [cDr]; simp [hq]
  | r + 1 => by
    have h1 := cDr_q hq r
    have h2 := (cDr_kp x tk Rr ww num q r).2
    rw [cDr]
    split
    · exact h1
    · split
      · rename_i h3 h4
        show (cCh _ _ _ 5).1 9 0 5 = nI (q + 5 * (ww - ((cDr x tk Rr ww num q r).2.1 - 1)))
        rw [cCh_q h1]
        congr 1; omega
      · exact h1
theorem cDr_stop {r : Nat} (h : (cDr x tk Rr ww num q r).2.1 = 0) : ∀ d, cDr x tk Rr ww num q (r + d) = cDr x tk Rr ww num q r
  | 0 => rfl
  | d + 1 => by
    have ih := cDr_stop h d
    show cDr x tk Rr ww num q (r + d + 1) = _
    rw [cDr, ih, if_pos h]
end CD
set_option maxHeartbeats 4000000 in
set_option maxRecDepth 100000 in
/-- Dawn.chooseRows -/
theorem ctX3_chooseRows (l : Launch) (D : va_G) (y : Nat → ClassId) (ad : Nat → Nat → Nat) (x : cS) (R : List (Nat × Nat)) (qs : Nat → Nat × Nat) (nC nT : Nat) (hR : cHas R nC nT) (t w : Int32) (num : Int64) (a q tt ww : Nat) (cm co : Nat → Nat) (tk : Nat → Nat → Nat) (ha : x.1 9 0 4 = nI a) (ha1 : a ≤ 150) (hcm : ∀ i, i < a → x.2.2 10 0 i = some (cm i) ∧ cm i < nC) (ht : t = nI tt) (htt : tt < 10) (hco : ∀ j, j < 50 → x.1 11 0 j = nI (co j) ∧ co j ≤ 150) (hr30 : cMn co tt 5 ≤ 30) (hw : w = nI ww) (hww1 : ww ≤ cMn co tt 5) (hq : x.1 9 0 5 = nI q) (hq5 : q + 5 * ww ≤ 150) (htk : ∀ r, r < cMn co tt 5 → ∀ w, w < 5 → fOpt (fun i => cHo x t (nI w) (nI r) (cm i)) a cm = some (tk r w)) : cMi l yX3_chooseRows wsX3_chooseRows ({ frames := 3, cells := 0, slots := 0, locals := 72 }) D y ad x R qs [.ref (ad 9 0), .int t, .int w, .long num] (fun r x' => r = nI (5 * (ww - (cDr x tk (cMn co tt 5) ww num q (cMn co tt 5)).2.1)) ∧ x' = cI (cDr x tk (cMn co tt 5) ww num q (cMn co tt 5)).2.2 12 0 tt 1) := by
  refine cMi_of (cc := cX3_chooseRows) (maxL := 13) (ret := (some .int)) (by decide) rfl (Nat.le_of_ble_eq_true rfl) ?_
  intro p e s m below meth c A ls hat hAe hl
  obtain ⟨hx, hb, hr, hml, hts, hown, hlocks, hK, hP, hD, hA, hE⟩ := hat
  have hown : s.vm.findClass RX3 = some m.cls := hown
  have hin3 : ∀ w ∈ wsX30, w ∈ wsX3_chooseRows := fun _ h9 => List.mem_cons_of_mem _ (List.mem_append_left _ (List.mem_append_right _ h9))
  have hin1 : ∀ w ∈ wsX10, w ∈ wsX3_chooseRows := fun _ h9 => List.mem_cons_of_mem _ (List.mem_append_right _ h9)
  have hl : lv_has ls 13 [(0, .ref (ad 9 0)), (1, .int t), (2, .int w), (3, .long num)] := hl
  have hS : va_S A s.heap s.heap [] := va_S.rf
  have hT : isT t = true := (inR_c (n := 10) (by omega)).mpr ⟨tt, htt, ht⟩
  refine lv_iload_n hx hb dX3_chooseRows_0 rfl (lv_at hl 1 rfl) ?_
  refine sn_calli (As := [.int t]) (rest := []) ⟨hx, hb, hml, hown, hts⟩ (ctX9_isTribe l t) ⟨va_cnB 1 hts gX3_chooseRows_X9_isTribe_n56 rfl rfl rfl hE.1.2.2 (hts _ (by decide +kernel)) (by decide +kernel) ⟨Nat.le_of_ble_eq_true rfl, Nat.le_of_ble_eq_true rfl⟩, hts _ (by decide +kernel), trivial⟩ hP hS rfl hl.1 rfl (Nat.le_of_ble_eq_true rfl) dX3_chooseRows_1 ⟨Nat.zero_le _, Nat.zero_le _⟩ (fun H locs hP hS => ?_)
  refine lv_if_ne (tgt := 10) hx hb dX3_chooseRows_4 (by decide) (fun c_4 => ?_) (fun c_4 => ?_)
  · refine lv_aload_n hx hb dX3_chooseRows_10 rfl (lv_at hl 0 rfl) ?_
    refine lv_iload_n hx hb dX3_chooseRows_11 rfl (lv_at hl 1 rfl) ?_
    refine c_callip (ci := 3) (q := (RX3, TX3, 7)) (κ := 9) (i := 0) (As := [.int t]) (rest := []) ⟨hx, hb, hml, hown, hts⟩ (ctX3_rowsOf l D y ad x R qs nC nT hR t tt co ht htt hco) (cwV 1 hts gX3_chooseRows_X3_rowsOf rfl rfl rfl (by decide +kernel) ⟨Nat.le_of_ble_eq_true rfl, Nat.le_of_ble_eq_true rfl⟩) ((hR 9 (0)).mpr Nat.zero_lt_one) (fun _ _ _ => ⟨_, rfl⟩) rfl hE hK hP hD hS hA rfl hl.1 rfl (Nat.le_of_ble_eq_true rfl) dX3_chooseRows_12 ⟨Nat.zero_le _, Nat.zero_le _⟩ (fun H locs hP hD hS => ?_)
    refine lv_topi (fun x5 ex5 => ?_)
    refine lv_istore (lv' := [(5, .int x5), (0, .ref (ad 9 0)), (1, .int t), (2, .int w), (3, .long num)]) hx hb dX3_chooseRows_15 hl (by decide) rfl (fun ls hl => ?_)
    refine lv_iload_n hx hb dX3_chooseRows_17 rfl (lv_at hl 3 rfl) ?_
    refine lv_istore (lv' := [(6, .int w), (5, .int x5), (0, .ref (ad 9 0)), (1, .int t), (2, .int w), (3, .long num)]) hx hb dX3_chooseRows_18 hl (by decide) rfl (fun ls hl => ?_)
    refine lv_lload_n hx hb dX3_chooseRows_20 rfl (lv_at hl 5 rfl) ?_
    refine lv_lstore (lv' := [(7, .long num), (6, .int w), (5, .int x5), (0, .ref (ad 9 0)), (1, .int t), (2, .int w), (3, .long num)]) hx hb dX3_chooseRows_21 hl (by decide) rfl (fun ls hl => ?_)
    refine lv_aload_n hx hb dX3_chooseRows_23 rfl (lv_at hl 3 rfl) ?_
    refine cg_X3_chosenOnes (i := 0) hx hb hts hin3 hown hK hP ((hR 9 (0)).mpr Nat.zero_lt_one) (by decide +kernel) dX3_chooseRows_24 ?_
    refine lv_topi (fun x9 ex9 => ?_)
    refine lv_istore (lv' := [(9, .int x9), (7, .long num), (6, .int w), (5, .int x5), (0, .ref (ad 9 0)), (1, .int t), (2, .int w), (3, .long num)]) hx hb dX3_chooseRows_27 hl (by decide) rfl (fun ls hl => ?_)
    refine lv_iconst (v := 0) hx hb dX3_chooseRows_29 (by decide) ?_
    refine lv_istore (lv' := [(10, .int 0), (9, .int x9), (7, .long num), (6, .int w), (5, .int x5), (0, .ref (ad 9 0)), (1, .int t), (2, .int w), (3, .long num)]) hx hb dX3_chooseRows_30 hl (by decide) rfl (fun ls hl => ?_)
    have lp_32 : ∀ (n_32 : Nat) (r wd : Nat) (u : cS) (x6 : Int32) (x7 : Int64) (x10 : Int32), (r ≤ cMn co tt 5) → (cMn co tt 5 + 1 ≤ r + n_32) → (x10 = nI r) → (x6 = nI wd) → ((x7, wd, u) = cDr x tk (cMn co tt 5) ww num q r) → ∀ (H : Heap) (locs : List Loc), va_P D vwCl (cW ad y u R) H → va_D A (cW ad y u R) → va_S A s.heap H locs → ∀ (ls : Array Slot), lv_has ls 13 [(0, .ref (ad 9 0)), (1, .int t), (5, .int x5), (6, .int x6), (7, .long x7), (9, .int x9), (10, .int x10)] → W p l e (headSpec wsX3_chooseRows ({ frames := 3, cells := 0, slots := 0, locals := 72 })).room s m ([.ref (ad 9 0), .int t, .int w, .long num] : List Value).toArray below meth c H locs 0 0 (MQ below (va_Qi (fun r x' => r = nI (5 * (ww - (cDr x tk (cMn co tt 5) ww num q (cMn co tt 5)).2.1)) ∧ x' = cI (cDr x tk (cMn co tt 5) ww num q (cMn co tt 5)).2.2 12 0 tt 1) (cEnd D y ad R s.heap.size) A) ([.ref (ad 9 0), .int t, .int w, .long num] : List Value).toArray s 0 0 A) (F0 m 32 ls []) := by
      intro n_32
      induction n_32 with
      | zero =>
        intro r wd u x6 x7 x10 hr0 hf ex10 ex6 hdr
        exact absurd hf (by omega)
      | succ n_32 ih_32 =>
        intro r wd u x6 x7 x10 hr0 hf ex10 ex6 hdr H locs hP hD hS ls hl
        have hkp : cKp u x := by have h9 := (cDr_kp x tk (cMn co tt 5) ww num q r).1; rw [← hdr] at h9; exact h9
        have hwl : wd ≤ ww := by have h9 := (cDr_kp x tk (cMn co tt 5) ww num q r).2; rw [← hdr] at h9; exact h9
        have hqu : u.1 9 0 5 = nI (q + 5 * (ww - wd)) := by have h9 := cDr_q x tk (cMn co tt 5) ww num q hq r; rw [← hdr] at h9; exact h9
        have hau : u.1 9 0 4 = nI a := by rw [hkp.1 9 0 4 (by simp) (by simp)]; exact ha
        have hcmu : ∀ i, i < a → u.2.2 10 0 i = some (cm i) ∧ cm i < nC := fun i hi => by rw [hkp.2.2 10 0 i (by decide)]; exact hcm i hi
        refine lv_iload hx hb dX3_chooseRows_32 (lv_at hl 6 rfl) ?_
        refine lv_iload hx hb dX3_chooseRows_34 (lv_at hl 2 rfl) ?_
        have j_94 : ((x7, wd, u) = cDr x tk (cMn co tt 5) ww num q (cMn co tt 5)) → ∀ (H : Heap) (locs : List Loc), va_P D vwCl (cW ad y u R) H → va_D A (cW ad y u R) → va_S A s.heap H locs → ∀ (ls : Array Slot), lv_has ls 13 [(0, .ref (ad 9 0)), (1, .int t), (9, .int x9)] → W p l e (headSpec wsX3_chooseRows ({ frames := 3, cells := 0, slots := 0, locals := 72 })).room s m ([.ref (ad 9 0), .int t, .int w, .long num] : List Value).toArray below meth c H locs 0 0 (MQ below (va_Qi (fun r x' => r = nI (5 * (ww - (cDr x tk (cMn co tt 5) ww num q (cMn co tt 5)).2.1)) ∧ x' = cI (cDr x tk (cMn co tt 5) ww num q (cMn co tt 5)).2.2 12 0 tt 1) (cEnd D y ad R s.heap.size) A) ([.ref (ad 9 0), .int t, .int w, .long num] : List Value).toArray s 0 0 A) (F0 m 94 ls []) := by
          intro hdf H locs hP hD hS ls hl
          refine lv_aload_n hx hb dX3_chooseRows_94 rfl (lv_at hl 0 rfl) ?_
          refine cg_X3_drawn (i := 0) hx hb hts hin3 hown hK hP ((hR 9 (0)).mpr Nat.zero_lt_one) (by decide +kernel) dX3_chooseRows_95 ?_
          refine lv_iload_n hx hb dX3_chooseRows_98 rfl (lv_at hl 1 rfl) ?_
          refine lv_iconst (v := 1) hx hb dX3_chooseRows_99 (by decide) ?_
          refine cs_bool 12 (0) 10 hx hb hK hP hD hS ((hR 12 (0)).mpr Nat.zero_lt_one) (fun _ _ _ => rfl) (by rw [ht]; exact vp_in_nI htt (by omega)) dX3_chooseRows_100 (fun H locs hP hD hS => ?_)
          rw [nar1, ht, nI_clamp (by omega)] at hP hD
          refine lv_aload_n hx hb dX3_chooseRows_101 rfl (lv_at hl 0 rfl) ?_
          refine cg_X3_chosenOnes (i := 0) hx hb hts hin3 hown hK hP ((hR 9 (0)).mpr Nat.zero_lt_one) (by decide +kernel) dX3_chooseRows_102 ?_
          refine lv_iload hx hb dX3_chooseRows_105 (lv_at hl 2 rfl) ?_
          refine lv_isub hx hb dX3_chooseRows_107 ?_
          exact c_reti hx hb hr hlocks hAe hK hP hD hS rfl dX3_chooseRows_108 (⟨by rw [← hdf, ex9, show (cI u 12 0 tt 1).1 9 0 5 = u.1 9 0 5 by simp [cI_r], hqu, hq, pk_sub (by omega)]; show nI _ = nI (5 * (ww - wd)); congr 1; omega, by rw [← hdf]⟩)
        refine lv_icmp_ge (tgt := 94) hx hb dX3_chooseRows_36 (by decide) (fun c_36 => ?_) (fun c_36 => ?_)
        · have hrn : r = cMn co tt 5 := by rw [ex5, ex10] at c_36; have := (nI_leI (by omega) (by omega)).mp c_36; omega
          exact j_94 (by rw [hdr, hrn]) _ _ hP hD hS _ (lv_sub hl [0, 1, 5] rfl)
        · have hrn : r < cMn co tt 5 := by rw [ex5, ex10] at c_36; exact Nat.not_le.mp (fun q9 => c_36 (nI_le q9 (by omega)))
          refine lv_iload hx hb dX3_chooseRows_39 (lv_at hl 3 rfl) ?_
          refine lv_if_le (tgt := 94) hx hb dX3_chooseRows_41 (by decide) (fun c_41 => ?_) (fun c_41 => ?_)
          · have hwd0 : wd = 0 := by rw [ex6] at c_41; have := (nI_leI (b := 0) (by omega) (by omega)).mp c_41; omega
            exact j_94 (by have h9 := cDr_stop x tk (cMn co tt 5) ww num q (r := r) (by rw [← hdr]; exact hwd0) (cMn co tt 5 - r); rw [Nat.add_sub_cancel' hr0] at h9; rw [h9, hdr]) _ _ hP hD hS _ (lv_sub hl [0, 1, 5] rfl)
          · have hwd0 : ¬ wd = 0 := fun q9 => c_41 (by rw [ex6, q9]; exact Int32.le_refl _)
            refine lv_iload hx hb dX3_chooseRows_44 (lv_at hl 2 rfl) ?_
            refine lv_iload hx hb dX3_chooseRows_46 (lv_at hl 6 rfl) ?_
            refine lv_isub hx hb dX3_chooseRows_48 ?_
            refine lv_iconst (v := 1) hx hb dX3_chooseRows_49 (by decide) ?_
            refine lv_isub hx hb dX3_chooseRows_50 ?_
            refine lv_iload hx hb dX3_chooseRows_51 (lv_at hl 3 rfl) ?_
            refine lv_iconst (v := 1) hx hb dX3_chooseRows_53 (by decide) ?_
            refine lv_isub hx hb dX3_chooseRows_54 ?_
            rw [show x5 - x10 - 1 = nI (cMn co tt 5 - r - 1) by rw [ex5, ex10, pk_sub hr0]; exact pk_sub (b := 1) (by omega), show x6 - 1 = nI (wd - 1) by rw [ex6]; exact pk_sub (b := 1) (by omega)]
            refine sn_calll (As := [.int (nI (cMn co tt 5 - r - 1)), .int (nI (wd - 1))]) (rest := []) ⟨hx, hb, hml, hown, hts⟩ (ctX9_waysToChoose l (cMn co tt 5 - r - 1) (nI (wd - 1)) (by omega)) ⟨va_cnB 2 hts gX3_chooseRows_X9_waysToChoose_n70 rfl rfl rfl hE.1.1 (hts _ (by decide +kernel)) (by decide +kernel) ⟨Nat.le_of_ble_eq_true rfl, Nat.le_of_ble_eq_true rfl⟩, hts _ (by decide +kernel), trivial⟩ hP hS rfl hl.1 rfl (Nat.le_of_ble_eq_true rfl) dX3_chooseRows_55 ⟨Nat.zero_le _, Nat.zero_le _⟩ (fun H locs hP hS => ?_)
            refine lv_topl (fun x11 ex11 => ?_)
            refine lv_lstore (lv' := [(11, .long x11), (0, .ref (ad 9 0)), (1, .int t), (5, .int x5), (6, .int x6), (7, .long x7), (9, .int x9), (10, .int x10)]) hx hb dX3_chooseRows_58 hl (by decide) rfl (fun ls hl => ?_)
            refine lv_lload hx hb dX3_chooseRows_60 (lv_at hl 5 rfl) ?_
            refine lv_lload hx hb dX3_chooseRows_62 (lv_at hl 0 rfl) ?_
            refine W.lcmp hx hb dX3_chooseRows_64 ?_
            refine lv_if_ge (tgt := 81) hx hb dX3_chooseRows_65 (by decide) (fun c_65 => ?_) (fun c_65 => ?_)
            · have hlt : ¬ x7 < lN (ch (cMn co tt 5 - r - 1) (wd - 1)) := by have h9 := (lg_cmp_ge _ _).mp c_65; rw [ex11, wtc_nI (by omega) (by omega)] at h9; exact Int64.not_lt.mpr h9
              rw [wtc_nI (by omega) (by omega)] at ex11
              refine lv_lload hx hb dX3_chooseRows_81 (lv_at hl 5 rfl) ?_
              refine lv_lload hx hb dX3_chooseRows_83 (lv_at hl 0 rfl) ?_
              refine lv_lsub hx hb dX3_chooseRows_85 ?_
              refine lv_topl (fun x7_1 ex7_1 => ?_)
              refine lv_lstore (lv' := [(7, .long x7_1), (11, .long x11), (0, .ref (ad 9 0)), (1, .int t), (5, .int x5), (6, .int x6), (9, .int x9), (10, .int x10)]) hx hb dX3_chooseRows_86 hl (by decide) rfl (fun ls hl => ?_)
              obtain ⟨x10_2, ex10_2⟩ : ∃ z : Int32, z = x10 + 1 := ⟨_, rfl⟩
              refine lv_iinc (v := x10_2) (lv' := [(10, .int x10_2), (7, .long x7_1), (11, .long x11), (0, .ref (ad 9 0)), (1, .int t), (5, .int x5), (6, .int x6), (9, .int x9)]) hx hb dX3_chooseRows_88 hl (k := 7) rfl (by rw [ex10_2]; rfl) (by decide) rfl (fun ls hl => ?_)
              refine lv_goto (tgt := 32) hx hb dX3_chooseRows_91 (by decide) ?_
              exact ih_32 (r + 1) wd _ _ _ _ (by omega) (by omega) (by rw [ex10_2, ex10]; exact nI_1 _) ex6 (by rw [cDr, ← hdr, if_neg hwd0, if_neg hlt, ex7_1, ex11]) _ _ hP hD hS _ (lv_sub hl [3, 4, 5, 6, 1, 7, 0] rfl)
            · have hlt : x7 < lN (ch (cMn co tt 5 - r - 1) (wd - 1)) := by have h9 : ¬ x11 ≤ x7 := fun q9 => c_65 ((lg_cmp_ge _ _).mpr q9); rw [ex11, wtc_nI (by omega) (by omega)] at h9; exact Int64.not_le.mp h9
              have hww : q + 5 * (ww - wd) = q + 5 * (ww - wd) := rfl
              have htkr : ∀ w, w < 5 → fOpt (fun i => cHo u t (nI w) x10 (cm i)) a cm = some (tk r w) := fun w9 h9 => by rw [← htk r hrn w9 h9, ex10]; exact congrArg (fun f => fOpt f a cm) (funext fun i => cHo_kp hkp t (nI w9) (nI r) (cm i))
              refine lv_aload_n hx hb dX3_chooseRows_68 rfl (lv_at hl 1 rfl) ?_
              refine lv_iload_n hx hb dX3_chooseRows_69 rfl (lv_at hl 2 rfl) ?_
              refine lv_iload hx hb dX3_chooseRows_70 (lv_at hl 7 rfl) ?_
              refine c_callv (ci := 3) (q := (RX3, TX3, 7)) (κ := 9) (i := 0) (As := [.int t, .int x10]) (rest := []) ⟨hx, hb, hml, hown, hts⟩ (ctX3_chooseRow l D y ad u R qs nC nT hR t x10 a (q + 5 * (ww - wd)) cm (tk r) hau ha1 hcmu hqu (by omega) htkr) (cwV 2 hts gX3_chooseRows_X3_chooseRow rfl rfl rfl (by decide +kernel) ⟨Nat.le_of_ble_eq_true rfl, Nat.le_of_ble_eq_true rfl⟩) ((hR 9 (0)).mpr Nat.zero_lt_one) (fun _ _ _ => ⟨_, rfl⟩) rfl hE hK hP hD hS hA rfl hl.1 rfl (Nat.le_of_ble_eq_true rfl) dX3_chooseRows_72 ⟨Nat.zero_le _, Nat.zero_le _⟩ (fun x62 H locs hq62 hP hD hS => ?_)
              obtain ⟨x6_3, ex6_3⟩ : ∃ z : Int32, z = x6 + (-1) := ⟨_, rfl⟩
              refine lv_iinc (v := x6_3) (lv' := [(6, .int x6_3), (11, .long x11), (0, .ref (ad 9 0)), (1, .int t), (5, .int x5), (7, .long x7), (9, .int x9), (10, .int x10)]) hx hb dX3_chooseRows_75 hl (k := 4) rfl (by rw [ex6_3]; rfl) (by decide) rfl (fun ls hl => ?_)
              refine lv_goto (tgt := 88) hx hb dX3_chooseRows_78 (by decide) ?_
              obtain ⟨x10_4, ex10_4⟩ : ∃ z : Int32, z = x10 + 1 := ⟨_, rfl⟩
              refine lv_iinc (v := x10_4) (lv' := [(10, .int x10_4), (6, .int x6_3), (11, .long x11), (0, .ref (ad 9 0)), (1, .int t), (5, .int x5), (7, .long x7), (9, .int x9)]) hx hb dX3_chooseRows_88 hl (k := 7) rfl (by rw [ex10_4]; rfl) (by decide) rfl (fun ls hl => ?_)
              refine lv_goto (tgt := 32) hx hb dX3_chooseRows_91 (by decide) ?_
              exact ih_32 (r + 1) (wd - 1) _ _ _ _ (by omega) (by omega) (by rw [ex10_4, ex10]; exact nI_1 _) (by rw [ex6_3, ex6]; exact (congrArg (fun z => nI z + (-1)) (show wd = wd - 1 + 1 by omega)).trans (pk_m1 _)) (by rw [cDr, ← hdr, if_neg hwd0, if_pos hlt]; rw [hq62, hww]) _ _ hP hD hS _ (lv_sub hl [3, 4, 5, 1, 6, 7, 0] rfl)
    exact lp_32 (cMn co tt 5 + 1) 0 ww _ _ _ _ (Nat.zero_le _) (by omega) rfl hw rfl _ _ hP hD hS _ (lv_sub hl [5, 6, 4, 3, 2, 1, 0] rfl)
  · exact absurd hT (by rw [(zI_eq _).mp c_4]; decide)
