/-! the landed program: the reader takes words, numbers -/
/-- the reader stands at a token -/
def cRI (x : cS) : Prop := x.1 3 0 7 = nI (sI (x.1 3 0 7)) ∧ x.1 3 0 8 = nI (sI (x.1 3 0 8)) ∧ sI (x.1 3 0 7) ≤ sI (x.1 3 0 8) ∧ sI (x.1 3 0 8) ≤ 1000
def cIsW (u : Nat) (x : cS) (j : Nat) : Bool := decide (x.1 3 0 6 = 1) && (decide (sI (x.1 3 0 8) - sI (x.1 3 0 7) = (cTx j).length) && alln (fun i => cWi x u (chr (cTx j) i) (chr (cTx j) i) (sI (x.1 3 0 7) + i)) (cTx j).length)
theorem cTx_len (j : Nat) : (cTx j).length ≤ 7 ∧ 0 < (cTx j).length := by
  unfold cTx
  split <;> decide
set_option maxHeartbeats 4000000 in
set_option maxRecDepth 100000 in
/-- LawReader.isWord -/
theorem ctX5_isWord (l : Launch) (D : va_G) (y : Nat → ClassId) (ad : Nat → Nat → Nat) (x : cS) (R : List (Nat × Nat)) (qs : Nat → Nat × Nat) (nC nT : Nat) (hR : cHas R nC nT) (u j : Nat) (hu : x.1 1 0 1 = nI u) (hu1 : u ≤ 1000) (hI : cRI x) (hj : j < 10) : cMi l yX5_isWord wsX5_isWord ({ frames := 5, cells := 0, slots := 0, locals := 106 }) D y ad x R qs [.ref (ad 3 0), .ref ((qs j).1)] (fun r x' => r = zI (cIsW u x j) ∧ x' = x) := by
  refine cMi_of (cc := cX5_isWord) (maxL := 3) (ret := (some .boolean)) (by decide) rfl (Nat.le_of_ble_eq_true rfl) ?_
  intro p e s m below meth c A ls hat hAe hl
  obtain ⟨hx, hb, hr, hml, hts, hown, hlocks, hK, hP, hD, hA, hE⟩ := hat
  have hown : s.vm.findClass RX5 = some m.cls := hown
  have hin5 : ∀ w ∈ wsX50, w ∈ wsX5_isWord := fun _ h9 => List.mem_cons_of_mem _ (List.mem_append_left _ (List.mem_append_right _ h9))
  have hin8 : ∀ w ∈ wsX80, w ∈ wsX5_isWord := fun _ h9 => List.mem_cons_of_mem _ (List.mem_append_right _ h9)
  have hl : lv_has ls 3 [(0, .ref (ad 3 0)), (1, .ref ((qs j).1))] := hl
  have hS : va_S A s.heap s.heap [] := va_S.rf
  have hEj := (hE.2 j hj).1
  refine lv_aload_n hx hb dX5_isWord_0 rfl (lv_at hl 0 rfl) ?_
  refine cg_X5_token (i := 0) hx hb hts hin5 hown hK hP ((hR 3 (0)).mpr Nat.zero_lt_one) (by decide +kernel) dX5_isWord_1 ?_
  refine lv_iconst (v := 1) hx hb dX5_isWord_4 (by decide) ?_
  refine lv_icmp_ne (tgt := 24) hx hb dX5_isWord_5 (by decide) (fun c_5 => ?_) (fun c_5 => ?_)
  · have h5 : cIsW u x j = false := by simp [cIsW, c_5]
    refine lv_iconst (v := 0) hx hb dX5_isWord_24 (by decide) ?_
    exact c_reti hx hb hr hlocks hAe hK hP hD hS (by first | rfl | decide) dX5_isWord_25 (⟨by rw [h5]; rfl, rfl⟩)
  · refine lv_aload_n hx hb dX5_isWord_8 rfl (lv_at hl 0 rfl) ?_
    refine cg_X5_next (i := 0) hx hb hts hin5 hown hK hP ((hR 3 (0)).mpr Nat.zero_lt_one) (by decide +kernel) dX5_isWord_9 ?_
    refine lv_aload_n hx hb dX5_isWord_12 rfl (lv_at hl 0 rfl) ?_
    refine cg_X5_start (i := 0) hx hb hts hin5 hown hK hP ((hR 3 (0)).mpr Nat.zero_lt_one) (by decide +kernel) dX5_isWord_13 ?_
    refine lv_isub hx hb dX5_isWord_16 ?_
    refine lv_aload_n hx hb dX5_isWord_17 rfl (lv_at hl 1 rfl) ?_
    refine t_calliV (As := []) (rest := [.int _]) ⟨hx, hb, hml, hown, hts⟩ (ctJ0_length_8abf5 l (cTx j) (qs j).1 (qs j).2 (by have := cTx_len j; omega)) (cwV 0 hts gX5_isWord_J0_length_8abf5 rfl rfl rfl (by decide +kernel) ⟨Nat.le_of_ble_eq_true rfl, Nat.le_of_ble_eq_true rfl⟩) hEj hP hS rfl hl.1 rfl (Nat.le_of_ble_eq_true rfl) dX5_isWord_18 ⟨Nat.zero_le _, Nat.zero_le _⟩ (fun H locs hP hS => ?_)
    refine lv_icmp_eq (tgt := 26) hx hb dX5_isWord_21 (by decide) (fun c_21 => ?_) (fun c_21 => ?_)
    · have h21 : sI (x.1 3 0 8) - sI (x.1 3 0 7) = (cTx j).length := by rw [hI.1, hI.2.1, pk_sub hI.2.2.1] at c_21; have h8 := cTx_len j; have h7 := hI.2.2; exact (nI_eq (by omega) (by omega)).mp c_21
      refine lv_iconst (v := 0) hx hb dX5_isWord_26 (by decide) ?_
      refine lv_istore_n (lv' := [(2, .int 0), (0, .ref (ad 3 0)), (1, .ref ((qs j).1))]) hx hb dX5_isWord_27 rfl hl (by decide) rfl (fun ls hl => ?_)
      have lp_28 : ∀ (n_28 : Nat) (i9 : Nat) (x2 : Int32), (i9 ≤ (cTx j).length) → ((cTx j).length + 1 ≤ i9 + n_28) → (x2 = nI i9) → (alln (fun i => cWi x u (chr (cTx j) i) (chr (cTx j) i) (sI (x.1 3 0 7) + i)) i9 = true) → ∀ (H : Heap) (locs : List Loc), va_P D vwCl (cW ad y x R) H → va_D A (cW ad y x R) → va_S A s.heap H locs → ∀ (ls : Array Slot), lv_has ls 3 [(0, .ref (ad 3 0)), (1, .ref ((qs j).1)), (2, .int x2)] → W p l e (headSpec wsX5_isWord ({ frames := 5, cells := 0, slots := 0, locals := 106 })).room s m ([.ref (ad 3 0), .ref ((qs j).1)] : List Value).toArray below meth c H locs 0 0 (MQ below (va_Qi (fun r x' => r = zI (cIsW u x j) ∧ x' = x) (cEnd D y ad R s.heap.size) A) ([.ref (ad 3 0), .ref ((qs j).1)] : List Value).toArray s 0 0 A) (F0 m 28 ls []) := by
        intro n_28
        induction n_28 with
        | zero =>
          intro i9 x2 hi0 hf ex2 hal
          exact absurd hf (by omega)
        | succ n_28 ih_28 =>
          intro i9 x2 hi0 hf ex2 hal H locs hP hD hS ls hl
          refine lv_iload_n hx hb dX5_isWord_28 rfl (lv_at hl 2 rfl) ?_
          refine lv_aload_n hx hb dX5_isWord_29 rfl (lv_at hl 1 rfl) ?_
          refine t_calliV (As := []) (rest := [.int x2]) ⟨hx, hb, hml, hown, hts⟩ (ctJ0_length_8abf5 l (cTx j) (qs j).1 (qs j).2 (by have := cTx_len j; omega)) (cwV 0 hts gX5_isWord_J0_length_8abf5 rfl rfl rfl (by decide +kernel) ⟨Nat.le_of_ble_eq_true rfl, Nat.le_of_ble_eq_true rfl⟩) hEj hP hS rfl hl.1 rfl (Nat.le_of_ble_eq_true rfl) dX5_isWord_30 ⟨Nat.zero_le _, Nat.zero_le _⟩ (fun H locs hP hS => ?_)
          refine lv_icmp_ge (tgt := 70) hx hb dX5_isWord_33 (by decide) (fun c_33 => ?_) (fun c_33 => ?_)
          · have hil : i9 = (cTx j).length := by have h8 := cTx_len j; rw [ex2] at c_33; have := (nI_leI (by omega) (by omega)).mp c_33; omega
            refine lv_iconst (v := 1) hx hb dX5_isWord_70 (by decide) ?_
            exact c_reti hx hb hr hlocks hAe hK hP hD hS (by first | rfl | decide) dX5_isWord_71 (⟨by rw [show cIsW u x j = true by rw [cIsW, ← hil, hal]; simp [c_5, h21, hil]]; rfl, rfl⟩)
          · have hil : i9 < (cTx j).length := by have h8 := cTx_len j; rw [ex2] at c_33; exact Nat.not_le.mp (fun q9 => c_33 (nI_le q9 (by omega)))
            refine lv_aload_n hx hb dX5_isWord_36 rfl (lv_at hl 0 rfl) ?_
            refine cg_X5_tape (i := 0) hx hb hts hin5 hown hK hP ((hR 3 (0)).mpr Nat.zero_lt_one) (by decide +kernel) dX5_isWord_37 ?_
            refine lv_aload_n hx hb dX5_isWord_40 rfl (lv_at hl 0 rfl) ?_
            refine cg_X5_start (i := 0) hx hb hts hin5 hown hK hP ((hR 3 (0)).mpr Nat.zero_lt_one) (by decide +kernel) dX5_isWord_41 ?_
            refine lv_iload_n hx hb dX5_isWord_44 rfl (lv_at hl 2 rfl) ?_
            refine lv_iadd hx hb dX5_isWord_45 ?_
            refine lv_aload_n hx hb dX5_isWord_46 rfl (lv_at hl 1 rfl) ?_
            refine lv_iload_n hx hb dX5_isWord_47 rfl (lv_at hl 2 rfl) ?_
            refine t_calliV (As := [.int x2]) (rest := [.int _, .ref (ad 1 0)]) ⟨hx, hb, hml, hown, hts⟩ ((ex2 ▸ ctJ0_charAt_5068e l (cTx j) (qs j).1 (qs j).2 i9 hil (by have := cTx_len j; omega))) (cwV 1 hts gX5_isWord_J0_charAt_5068e rfl rfl rfl (by decide +kernel) ⟨Nat.le_of_ble_eq_true rfl, Nat.le_of_ble_eq_true rfl⟩) hEj hP hS rfl hl.1 rfl (Nat.le_of_ble_eq_true rfl) dX5_isWord_48 ⟨Nat.zero_le _, Nat.zero_le _⟩ (fun H locs hP hS => ?_)
            refine lv_aload_n hx hb dX5_isWord_51 rfl (lv_at hl 1 rfl) ?_
            refine lv_iload_n hx hb dX5_isWord_52 rfl (lv_at hl 2 rfl) ?_
            refine t_calliV (As := [.int x2]) (rest := [.int _, .int _, .ref (ad 1 0)]) ⟨hx, hb, hml, hown, hts⟩ ((ex2 ▸ ctJ0_charAt_5068e l (cTx j) (qs j).1 (qs j).2 i9 hil (by have := cTx_len j; omega))) (cwV 1 hts gX5_isWord_J0_charAt_5068e rfl rfl rfl (by decide +kernel) ⟨Nat.le_of_ble_eq_true rfl, Nat.le_of_ble_eq_true rfl⟩) hEj hP hS rfl hl.1 rfl (Nat.le_of_ble_eq_true rfl) dX5_isWord_53 ⟨Nat.zero_le _, Nat.zero_le _⟩ (fun H locs hP hS => ?_)
            refine c_callip (ci := 8) (q := (RX8, TX8, 2)) (κ := 1) (i := 0) (As := [.int (x.1 3 0 7 + x2), .int (chr (cTx j) i9), .int (chr (cTx j) i9)]) (rest := []) ⟨hx, hb, hml, hown, hts⟩ (ctX8_isWithin l D y ad x R qs nC nT hR (x.1 3 0 7 + x2) (chr (cTx j) i9) (chr (cTx j) i9) u (sI (x.1 3 0 7) + i9) hu hu1 (by rw [ex2, hI.1, nI_add, ← hI.1]) (by have := hI.2.2; omega)) (cwV 3 hts gX5_isWord_X8_isWithin rfl rfl rfl (by decide +kernel) ⟨Nat.le_of_ble_eq_true rfl, Nat.le_of_ble_eq_true rfl⟩) ((hR 1 (0)).mpr Nat.zero_lt_one) (fun _ _ _ => ⟨_, rfl⟩) rfl hE hK hP hD hS hA rfl hl.1 rfl (Nat.le_of_ble_eq_true rfl) dX5_isWord_56 ⟨Nat.zero_le _, Nat.zero_le _⟩ (fun H locs hP hD hS => ?_)
            refine lv_if_ne (tgt := 64) hx hb dX5_isWord_59 (by decide) (fun c_59 => ?_) (fun c_59 => ?_)
            · have b59 : cWi x u (chr (cTx j) i9) (chr (cTx j) i9) (sI (x.1 3 0 7) + i9) = true := (zI_ne _).mp c_59
              obtain ⟨x2_1, ex2_1⟩ : ∃ z : Int32, z = x2 + 1 := ⟨_, rfl⟩
              refine lv_iinc (v := x2_1) (lv' := [(2, .int x2_1), (0, .ref (ad 3 0)), (1, .ref ((qs j).1))]) hx hb dX5_isWord_64 hl (k := 2) rfl (by rw [ex2_1]; rfl) (by decide) rfl (fun ls hl => ?_)
              refine lv_goto (tgt := 28) hx hb dX5_isWord_67 (by decide) ?_
              exact ih_28 (i9 + 1) _ (by omega) (by omega) (by rw [ex2_1, ex2]; exact nI_1 _) (by rw [alln, hal]; exact b59) _ _ hP hD hS _ (lv_sub hl [1, 2, 0] rfl)
            · have b59 : cWi x u (chr (cTx j) i9) (chr (cTx j) i9) (sI (x.1 3 0 7) + i9) = false := (zI_eq _).mp c_59
              refine lv_iconst (v := 0) hx hb dX5_isWord_62 (by decide) ?_
              exact c_reti hx hb hr hlocks hAe hK hP hD hS (by first | rfl | decide) dX5_isWord_63 (⟨by rw [show cIsW u x j = false by rw [cIsW, alln_f (i := i9 + 1) (show i9 + 1 ≤ (cTx j).length by omega) (by rw [alln]; simp only [b59, Bool.and_false])]; simp]; rfl, rfl⟩)
      exact lp_28 ((cTx j).length + 1) 0 _ (Nat.zero_le _) (by omega) rfl rfl _ _ hP hD hS _ (lv_sub hl [1, 2, 0] rfl)
    · have h21 : cIsW u x j = false := by have h9 : ¬ sI (x.1 3 0 8) - sI (x.1 3 0 7) = (cTx j).length := (fun q9 => c_21 (by rw [hI.1, hI.2.1, pk_sub hI.2.2.1, q9])); simp [cIsW, h9]
      refine lv_iconst (v := 0) hx hb dX5_isWord_24 (by decide) ?_
      exact c_reti hx hb hr hlocks hAe hK hP hD hS (by first | rfl | decide) dX5_isWord_25 (⟨by rw [h21]; rfl, rfl⟩)
