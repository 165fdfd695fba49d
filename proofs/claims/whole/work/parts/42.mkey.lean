/-! the reference: keyAt -/
def wW : Nat → Nat
  | 0 => 0
  | k + 1 => if chr wTx k = 32 then wW k + 1 else wW k
def wF : Nat → Nat
  | 0 => 0
  | k + 1 => if chr wTx k = 32 then k + 1 else wF k
def wFr (j : Nat) : Nat := [0, 4, 8, 14, 18, 23, 30, 38, 44, 49].getD j 0
def wLn (j : Nat) : Nat := [3, 3, 5, 3, 4, 6, 7, 5, 4, 4].getD j 0
theorem w_tab : ∀ k, k < 54 → (wF k ≤ k ∧ wW k ≤ 9 ∧ (chr wTx k = 32 → wFr (wW k) = wF k ∧ wLn (wW k) = k - wF k)) := by decide +kernel
theorem w_end : wW 54 = 10 := by decide +kernel
def alln (p : Nat → Bool) : Nat → Bool
  | 0 => true
  | n + 1 => alln p n && p n
theorem alln_f {p : Nat → Bool} {n i : Nat} (hi : i ≤ n) (h : alln p i = false) : alln p n = false := by
  induction n with
  | zero => rw [show i = 0 by omega] at h; exact h
  | succ n ih =>
    rw [alln]
    by_cases e : i = n + 1
    · rw [e, alln] at h; exact h
    · rw [ih (by omega)]; rfl
def wEq (v : mS) (z p j i : Nat) : Bool := decide (chr wTx (wFr j + i) = mSee v z (p + i))
def wOk (v : mS) (z p n j : Nat) : Bool := decide (wLn j = n) && alln (wEq v z p j) n
def mKey (v : mS) (z p n : Nat) : Int32 := fInt (wOk v z p n) 10
set_option maxHeartbeats 4000000 in
set_option maxRecDepth 100000 in
/-- keyAt(pp, nn) -/
theorem ctX10_keyAt (l : Launch) (D : va_G) (y : Nat → ClassId) (h : Nat) (a : Nat → Nat) (q qv : Nat) (v : mS) (pp nn z : Nat) (hz : v.1 2 = nI z) (hz1 : z ≤ 1000) (hp1 : pp ≤ 1000) (hn1 : nn ≤ 1000) : nMi l yX10_keyAt wsX10_keyAt ({ frames := 5, cells := 0, slots := 0, locals := 106 }) D y h a q qv v [.ref h, .int (nI pp), .int (nI nn)] (fun r v' => r = mKey v z pp nn ∧ v' = v) := by
  refine nMi_of (cc := cX10_keyAt) (maxL := 8) (ret := (some .int)) rfl rfl (Nat.le_of_ble_eq_true rfl) ?_
  intro p e s m below meth c A ls hat hE hR hAe hl
  obtain ⟨hx, hb, hr, hml, hts, hown, hlocks, hK, hP, hD, hA⟩ := hat
  have hin : ∀ w ∈ wsX100, w ∈ wsX10_keyAt := fun _ h9 => List.mem_cons_of_mem _ (List.mem_append_right _ h9)
  have hl : lv_has ls 8 [(0, .ref h), (1, .int (nI pp)), (2, .int (nI nn))] := hl
  have hS : va_S A s.heap s.heap [] := va_S.rf
  refine lv_iconst (v := 0) hx hb dX10_keyAt_0 (by decide) ?_
  refine lv_istore_n (lv' := [(3, .int 0), (0, .ref h), (1, .int (nI pp)), (2, .int (nI nn))]) hx hb dX10_keyAt_1 rfl hl (by decide) rfl (fun ls hl => ?_)
  refine lv_iconst (v := 0) hx hb dX10_keyAt_2 (by decide) ?_
  refine lv_istore (lv' := [(4, .int 0), (3, .int 0), (0, .ref h), (1, .int (nI pp)), (2, .int (nI nn))]) hx hb dX10_keyAt_3 hl (by decide) rfl (fun ls hl => ?_)
  refine lv_iconst (v := 0) hx hb dX10_keyAt_5 (by decide) ?_
  refine lv_istore (lv' := [(5, .int 0), (4, .int 0), (3, .int 0), (0, .ref h), (1, .int (nI pp)), (2, .int (nI nn))]) hx hb dX10_keyAt_6 hl (by decide) rfl (fun ls hl => ?_)
  have lp_8 : ∀ (n_8 : Nat) (k : Nat) (x3 : Int32) (x4 : Int32) (x5 : Int32), (k ≤ 54) → (55 ≤ k + n_8) → (x5 = nI k) → (x3 = nI (wW k)) → (x4 = nI (wF k)) → (∀ j, j < wW k → wOk v z pp nn j = false) → ∀ (H : Heap) (locs : List Loc), va_P D vwCl (mW h a y v) H → va_D A (mW h a y v) → va_S A s.heap H locs → ∀ (ls : Array Slot), lv_has ls 8 [(0, .ref h), (1, .int (nI pp)), (2, .int (nI nn)), (3, .int x3), (4, .int x4), (5, .int x5)] → W p l e (headSpec wsX10_keyAt ({ frames := 5, cells := 0, slots := 0, locals := 106 })).room s m ([.ref h, .int (nI pp), .int (nI nn)] : List Value).toArray below meth c H locs 0 0 (MQ below (va_Qi (fun r v' => r = mKey v z pp nn ∧ v' = v) (mEnd D y h a s.heap.size) A) ([.ref h, .int (nI pp), .int (nI nn)] : List Value).toArray s 0 0 A) (F0 m 8 ls []) := by
    intro n_8
    induction n_8 with
    | zero =>
      intro k x3 x4 x5 hk hf ex5 ex3 ex4 hno
      exact absurd hf (by omega)
    | succ n_8 ih_8 =>
      intro k x3 x4 x5 hk hf ex5 ex3 ex4 hno H locs hP hD hS ls hl
      refine lv_iload hx hb dX10_keyAt_8 (lv_at hl 5 rfl) ?_
      refine va_ldcS hx hb hown hR dX10_keyAt_10 ?_
      refine t_calliV (As := []) (rest := [.int x5]) ⟨hx, hb, hml, hown, hts⟩ (ctJ0_length_8abf5 l wTx q qv (by rw [wTx_len]; decide)) (cwV 0 hts gX10_keyAt_J0_length_8abf5 rfl rfl rfl (by decide +kernel) ⟨Nat.le_of_ble_eq_true rfl, Nat.le_of_ble_eq_true rfl⟩) hE hP hS rfl hl.1 rfl (Nat.le_of_ble_eq_true rfl) dX10_keyAt_12 ⟨Nat.zero_le _, Nat.zero_le _⟩ (fun H locs hP hS => ?_)
      refine lv_icmp_ge (tgt := 119) hx hb dX10_keyAt_15 (by decide) (fun c_15 => ?_) (fun c_15 => ?_)
      · have hk54 : k = 54 := by rw [wTx_len, ex5] at c_15; have := (nI_leI (a := 54) (by omega) (by omega)).mp c_15; omega
        refine lv_iconst (v := (-1)) hx hb dX10_keyAt_119 (by decide) ?_
        exact m_reti hx hb hr hlocks hAe hK hP hD hS rfl dX10_keyAt_120 (⟨(fInt_miss (by have := hno; rw [hk54, w_end] at this; exact this)).symm, rfl⟩)
      · have hk54 : k < 54 := by rw [wTx_len, ex5] at c_15; exact Nat.not_le.mp (fun q9 => c_15 (nI_le (a := 54) q9 (by omega)))
        obtain ⟨ht1, ht2, ht3⟩ := w_tab k hk54
        refine va_ldcS hx hb hown hR dX10_keyAt_18 ?_
        refine lv_iload hx hb dX10_keyAt_20 (lv_at hl 5 rfl) ?_
        refine t_calliV (As := [.int x5]) (rest := []) ⟨hx, hb, hml, hown, hts⟩ (ex5 ▸ ctJ0_charAt_5068e l wTx q qv k (by rw [wTx_len]; exact hk54) (by rw [wTx_len]; decide)) (cwV 1 hts gX10_keyAt_J0_charAt_5068e rfl rfl rfl (by decide +kernel) ⟨Nat.le_of_ble_eq_true rfl, Nat.le_of_ble_eq_true rfl⟩) hE hP hS rfl hl.1 rfl (Nat.le_of_ble_eq_true rfl) dX10_keyAt_22 ⟨Nat.zero_le _, Nat.zero_le _⟩ (fun H locs hP hS => ?_)
        refine lv_bipush (v := 32) hx hb dX10_keyAt_25 (by decide) ?_
        refine lv_icmp_eq (tgt := 33) hx hb dX10_keyAt_27 (by decide) (fun c_27 => ?_) (fun c_27 => ?_)
        · obtain ⟨hf1, hf2⟩ := ht3 c_27
          have hsub : x5 - x4 = nI (k - wF k) := by rw [ex5, ex4, pk_sub ht1]
          have j_97 : ∀ (x6e : Int32), (x6e = zI (wOk v z pp nn (wW k))) → ∀ (H : Heap) (locs : List Loc), va_P D vwCl (mW h a y v) H → va_D A (mW h a y v) → va_S A s.heap H locs → ∀ (ls : Array Slot), lv_has ls 8 [(0, .ref h), (1, .int (nI pp)), (2, .int (nI nn)), (3, .int x3), (4, .int x4), (5, .int x5), (6, .int x6e)] → W p l e (headSpec wsX10_keyAt ({ frames := 5, cells := 0, slots := 0, locals := 106 })).room s m ([.ref h, .int (nI pp), .int (nI nn)] : List Value).toArray below meth c H locs 0 0 (MQ below (va_Qi (fun r v' => r = mKey v z pp nn ∧ v' = v) (mEnd D y h a s.heap.size) A) ([.ref h, .int (nI pp), .int (nI nn)] : List Value).toArray s 0 0 A) (F0 m 97 ls []) := by
            intro x6e e6 H locs hP hD hS ls hl
            refine lv_iload hx hb dX10_keyAt_97 (lv_at hl 6 rfl) ?_
            refine lv_if_eq (tgt := 104) hx hb dX10_keyAt_99 (by decide) (fun c_99 => ?_) (fun c_99 => ?_)
            · have h99 := (zI_eq _).mp (by rw [← e6]; exact c_99)
              obtain ⟨x3_1, ex3_1⟩ : ∃ z : Int32, z = x3 + 1 := ⟨_, rfl⟩
              refine lv_iinc (v := x3_1) (lv' := [(3, .int x3_1), (0, .ref h), (1, .int (nI pp)), (2, .int (nI nn)), (4, .int x4), (5, .int x5), (6, .int x6e)]) hx hb dX10_keyAt_104 hl (k := 3) rfl (by rw [ex3_1]; rfl) (by decide) rfl (fun ls hl => ?_)
              refine lv_iload hx hb dX10_keyAt_107 (lv_at hl 5 rfl) ?_
              refine lv_iconst (v := 1) hx hb dX10_keyAt_109 (by decide) ?_
              refine lv_iadd hx hb dX10_keyAt_110 ?_
              refine lv_topi (fun x4n ex4n => ?_)
              refine lv_istore (lv' := [(4, .int x4n), (3, .int x3_1), (0, .ref h), (1, .int (nI pp)), (2, .int (nI nn)), (5, .int x5), (6, .int x6e)]) hx hb dX10_keyAt_111 hl (by decide) rfl (fun ls hl => ?_)
              obtain ⟨x5_2, ex5_2⟩ : ∃ z : Int32, z = x5 + 1 := ⟨_, rfl⟩
              refine lv_iinc (v := x5_2) (lv' := [(5, .int x5_2), (4, .int x4n), (3, .int x3_1), (0, .ref h), (1, .int (nI pp)), (2, .int (nI nn)), (6, .int x6e)]) hx hb dX10_keyAt_113 hl (k := 5) rfl (by rw [ex5_2]; rfl) (by decide) rfl (fun ls hl => ?_)
              refine lv_goto (tgt := 8) hx hb dX10_keyAt_116 (by decide) ?_
              exact ih_8 (k + 1) _ _ _ (by omega) (by omega) (by rw [ex5_2, ex5]; exact nI_1 _) (by rw [ex3_1, ex3, wW, if_pos c_27]; exact nI_1 _) (by rw [ex4n, ex5, wF, if_pos c_27]; exact nI_1 _) (by rw [wW, if_pos c_27]; exact lt_sb hno h99) _ _ hP hD hS _ (lv_sub hl [3, 4, 5, 2, 1, 0] rfl)
            · have h99 := (zI_ne _).mp (by rw [← e6]; exact c_99)
              refine lv_iload_n hx hb dX10_keyAt_102 rfl (lv_at hl 3 rfl) ?_
              exact m_reti hx hb hr hlocks hAe hK hP hD hS rfl dX10_keyAt_103 (⟨by rw [ex3]; exact (fInt_hit hno (by omega) h99).symm, rfl⟩)
          refine lv_iload hx hb dX10_keyAt_33 (lv_at hl 5 rfl) ?_
          have j_47 : ∀ z6 : Int32, z6 = zI (decide (wLn (wW k) = nn) && alln (wEq v z pp (wW k)) 0) → W p l e (headSpec wsX10_keyAt ({ frames := 5, cells := 0, slots := 0, locals := 106 })).room s m ([.ref h, .int (nI pp), .int (nI nn)] : List Value).toArray below meth c H locs 0 0 (MQ below (va_Qi (fun r v' => r = mKey v z pp nn ∧ v' = v) (mEnd D y h a s.heap.size) A) ([.ref h, .int (nI pp), .int (nI nn)] : List Value).toArray s 0 0 A) (F0 m 47 ls (.int z6 :: [])) := by
            intro z6 hz6
            refine lv_istore (lv' := [(6, .int z6), (0, .ref h), (1, .int (nI pp)), (2, .int (nI nn)), (3, .int x3), (4, .int x4), (5, .int x5)]) hx hb dX10_keyAt_47 hl (by decide) rfl (fun ls hl => ?_)
            refine lv_iconst (v := 0) hx hb dX10_keyAt_49 (by decide) ?_
            refine lv_istore (lv' := [(7, .int 0), (6, .int z6), (0, .ref h), (1, .int (nI pp)), (2, .int (nI nn)), (3, .int x3), (4, .int x4), (5, .int x5)]) hx hb dX10_keyAt_50 hl (by decide) rfl (fun ls hl => ?_)
            have lp_52 : ∀ (n_52 : Nat) (i : Nat) (x6 : Int32) (x7 : Int32), (i ≤ nn) → (nn + 1 ≤ i + n_52) → (x7 = nI i) → (x6 = zI (decide (wLn (wW k) = nn) && alln (wEq v z pp (wW k)) i)) → ∀ (H : Heap) (locs : List Loc), va_P D vwCl (mW h a y v) H → va_D A (mW h a y v) → va_S A s.heap H locs → ∀ (ls : Array Slot), lv_has ls 8 [(0, .ref h), (1, .int (nI pp)), (2, .int (nI nn)), (3, .int x3), (4, .int x4), (5, .int x5), (6, .int x6), (7, .int x7)] → W p l e (headSpec wsX10_keyAt ({ frames := 5, cells := 0, slots := 0, locals := 106 })).room s m ([.ref h, .int (nI pp), .int (nI nn)] : List Value).toArray below meth c H locs 0 0 (MQ below (va_Qi (fun r v' => r = mKey v z pp nn ∧ v' = v) (mEnd D y h a s.heap.size) A) ([.ref h, .int (nI pp), .int (nI nn)] : List Value).toArray s 0 0 A) (F0 m 52 ls []) := by
              intro n_52
              induction n_52 with
              | zero =>
                intro i x6 x7 hi0 hif ex7 ex6
                exact absurd hif (by omega)
              | succ n_52 ih_52 =>
                intro i x6 x7 hi0 hif ex7 ex6 H locs hP hD hS ls hl
                have hfls : (decide (wLn (wW k) = nn) && alln (wEq v z pp (wW k)) i) = false → (decide (wLn (wW k) = nn) && alln (wEq v z pp (wW k)) nn) = false := fun q9 => by by_cases e9 : wLn (wW k) = nn; simp only [e9, decide_true, Bool.true_and] at q9 ⊢; exact alln_f hi0 q9; simp [e9]
                refine lv_iload hx hb dX10_keyAt_52 (lv_at hl 7 rfl) ?_
                refine lv_iload_n hx hb dX10_keyAt_54 rfl (lv_at hl 2 rfl) ?_
                refine lv_icmp_ge (tgt := 97) hx hb dX10_keyAt_55 (by decide) (fun c_55 => ?_) (fun c_55 => ?_)
                · have hin9 : i = nn := by rw [ex7] at c_55; have := (nI_leI (by omega) (by omega)).mp c_55; omega
                  exact j_97 _ (by rw [ex6, wOk, hin9]) _ _ hP hD hS _ (lv_sub hl [0, 1, 2, 3, 4, 5, 6] rfl)
                · have hin9 : i < nn := by rw [ex7] at c_55; exact Nat.not_le.mp (fun q9 => c_55 (nI_le q9 (by omega)))
                  refine lv_iload hx hb dX10_keyAt_58 (lv_at hl 6 rfl) ?_
                  refine lv_if_eq (tgt := 97) hx hb dX10_keyAt_60 (by decide) (fun c_60 => ?_) (fun c_60 => ?_)
                  · have h60 := (zI_eq _).mp (by rw [← ex6]; exact c_60)
                    exact j_97 _ (by rw [ex6, wOk, h60, hfls h60]) _ _ hP hD hS _ (lv_sub hl [0, 1, 2, 3, 4, 5, 6] rfl)
                  · have h60 := (zI_ne _).mp (by rw [← ex6]; exact c_60)
                    have h61 : wLn (wW k) = nn := of_decide_eq_true (Bool.and_eq_true_iff.mp h60).1
                    have hxa : x4 + x7 = nI (wF k + i) := by rw [ex4, ex7, nI_add]
                    have hxb : nI pp + x7 = nI (pp + i) := by rw [ex7, nI_add]
                    refine va_ldcS hx hb hown hR dX10_keyAt_63 ?_
                    refine lv_iload hx hb dX10_keyAt_65 (lv_at hl 4 rfl) ?_
                    refine lv_iload hx hb dX10_keyAt_67 (lv_at hl 7 rfl) ?_
                    refine lv_iadd hx hb dX10_keyAt_69 ?_
                    rw [hxa]
                    refine t_calliV (As := [.int (nI (wF k + i))]) (rest := []) ⟨hx, hb, hml, hown, hts⟩ (ctJ0_charAt_5068e l wTx q qv (wF k + i) (by rw [wTx_len]; omega) (by rw [wTx_len]; decide)) (cwV 1 hts gX10_keyAt_J0_charAt_5068e rfl rfl rfl (by decide +kernel) ⟨Nat.le_of_ble_eq_true rfl, Nat.le_of_ble_eq_true rfl⟩) hE hP hS rfl hl.1 rfl (Nat.le_of_ble_eq_true rfl) dX10_keyAt_70 ⟨Nat.zero_le _, Nat.zero_le _⟩ (fun H locs hP hS => ?_)
                    refine lv_aload_n hx hb dX10_keyAt_73 rfl (lv_at hl 0 rfl) ?_
                    refine lv_iload_n hx hb dX10_keyAt_74 rfl (lv_at hl 1 rfl) ?_
                    refine lv_iload hx hb dX10_keyAt_75 (lv_at hl 7 rfl) ?_
                    refine lv_iadd hx hb dX10_keyAt_77 ?_
                    rw [hxb]
                    refine m_callip (As := [.int (nI (pp + i))]) (rest := [.int (chr wTx (wF k + i))]) ⟨hx, hb, hml, hown, hts⟩ (ctX10_see l D y h a v (pp + i) z hz hz1 (by omega)) (cwV 1 hts gX10_keyAt_X10_see rfl rfl rfl (by decide +kernel) ⟨Nat.le_of_ble_eq_true rfl, Nat.le_of_ble_eq_true rfl⟩) hK hP hD hS hA rfl hl.1 rfl (Nat.le_of_ble_eq_true rfl) dX10_keyAt_78 ⟨Nat.zero_le _, Nat.zero_le _⟩ (fun H locs hP hD hS => ?_)
                    refine lv_icmp_ne (tgt := 88) hx hb dX10_keyAt_81 (by decide) (fun c_81 => ?_) (fun c_81 => ?_)
                    · refine lv_iconst (v := 0) hx hb dX10_keyAt_88 (by decide) ?_
                      refine lv_istore (lv' := [(6, .int 0), (0, .ref h), (1, .int (nI pp)), (2, .int (nI nn)), (3, .int x3), (4, .int x4), (5, .int x5), (7, .int x7)]) hx hb dX10_keyAt_89 hl (by decide) rfl (fun ls hl => ?_)
                      obtain ⟨x7_3, ex7_3⟩ : ∃ z : Int32, z = x7 + 1 := ⟨_, rfl⟩
                      refine lv_iinc (v := x7_3) (lv' := [(7, .int x7_3), (6, .int 0), (0, .ref h), (1, .int (nI pp)), (2, .int (nI nn)), (3, .int x3), (4, .int x4), (5, .int x5)]) hx hb dX10_keyAt_91 hl (k := 7) rfl (by rw [ex7_3]; rfl) (by decide) rfl (fun ls hl => ?_)
                      refine lv_goto (tgt := 52) hx hb dX10_keyAt_94 (by decide) ?_
                      exact ih_52 (i + 1) _ _ (by omega) (by omega) (by rw [ex7_3, ex7]; exact nI_1 _) (by rw [alln, ← Bool.and_assoc, h60]; simp [zI, wEq, hf1, c_81]) _ _ hP hD hS _ (lv_sub hl [2, 3, 4, 5, 6, 7, 1, 0] rfl)
                    · refine lv_iconst (v := 1) hx hb dX10_keyAt_84 (by decide) ?_
                      refine lv_goto (tgt := 89) hx hb dX10_keyAt_85 (by decide) ?_
                      refine lv_istore (lv' := [(6, .int 1), (0, .ref h), (1, .int (nI pp)), (2, .int (nI nn)), (3, .int x3), (4, .int x4), (5, .int x5), (7, .int x7)]) hx hb dX10_keyAt_89 hl (by decide) rfl (fun ls hl => ?_)
                      obtain ⟨x7_4, ex7_4⟩ : ∃ z : Int32, z = x7 + 1 := ⟨_, rfl⟩
                      refine lv_iinc (v := x7_4) (lv' := [(7, .int x7_4), (6, .int 1), (0, .ref h), (1, .int (nI pp)), (2, .int (nI nn)), (3, .int x3), (4, .int x4), (5, .int x5)]) hx hb dX10_keyAt_91 hl (k := 7) rfl (by rw [ex7_4]; rfl) (by decide) rfl (fun ls hl => ?_)
                      refine lv_goto (tgt := 52) hx hb dX10_keyAt_94 (by decide) ?_
                      exact ih_52 (i + 1) _ _ (by omega) (by omega) (by rw [ex7_4, ex7]; exact nI_1 _) (by rw [alln, ← Bool.and_assoc, h60]; simp [zI, wEq, hf1, c_81]) _ _ hP hD hS _ (lv_sub hl [2, 3, 4, 5, 6, 7, 1, 0] rfl)
            exact lp_52 (nn + 1) 0 _ _ (Nat.zero_le _) (by omega) rfl hz6 _ _ hP hD hS _ (lv_sub hl [2, 3, 4, 5, 6, 7, 1, 0] rfl)
          refine lv_iload hx hb dX10_keyAt_35 (lv_at hl 4 rfl) ?_
          refine lv_isub hx hb dX10_keyAt_37 ?_
          refine lv_iload_n hx hb dX10_keyAt_38 rfl (lv_at hl 2 rfl) ?_
          refine lv_icmp_ne (tgt := 46) hx hb dX10_keyAt_39 (by decide) (fun c_39 => ?_) (fun c_39 => ?_)
          · have hlen : ¬ wLn (wW k) = nn := fun q9 => c_39 (by rw [hsub, ← hf2, q9])
            refine lv_iconst (v := 0) hx hb dX10_keyAt_46 (by decide) ?_
            exact j_47 _ (by simp [zI, alln, hlen])
          · have hlen : wLn (wW k) = nn := by rw [hsub, ← hf2] at c_39; exact (nI_eq (by omega) (by omega)).mp c_39
            refine lv_iconst (v := 1) hx hb dX10_keyAt_42 (by decide) ?_
            refine lv_goto (tgt := 47) hx hb dX10_keyAt_43 (by decide) ?_
            exact j_47 _ (by simp [zI, alln, hlen])
        · refine lv_goto (tgt := 113) hx hb dX10_keyAt_30 (by decide) ?_
          obtain ⟨x5_5, ex5_5⟩ : ∃ z : Int32, z = x5 + 1 := ⟨_, rfl⟩
          refine lv_iinc (v := x5_5) (lv' := [(5, .int x5_5), (0, .ref h), (1, .int (nI pp)), (2, .int (nI nn)), (3, .int x3), (4, .int x4)]) hx hb dX10_keyAt_113 hl (k := 5) rfl (by rw [ex5_5]; rfl) (by decide) rfl (fun ls hl => ?_)
          refine lv_goto (tgt := 8) hx hb dX10_keyAt_116 (by decide) ?_
          exact ih_8 (k + 1) _ _ _ (by omega) (by omega) (by rw [ex5_5, ex5]; exact nI_1 _) (by rw [ex3, wW, if_neg c_27]) (by rw [ex4, wF, if_neg c_27]) (by rw [wW, if_neg c_27]; exact hno) _ _ hP hD hS _ (lv_sub hl [1, 2, 3, 4, 5, 0] rfl)
  exact lp_8 55 0 _ _ _ (Nat.zero_le _) (by omega) rfl rfl rfl (fun j hj => absurd hj (Nat.not_lt_zero _)) _ _ hP hD hS _ (lv_sub hl [3, 4, 5, 2, 1, 0] rfl)
