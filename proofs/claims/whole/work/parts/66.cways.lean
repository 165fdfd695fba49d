/-! the landed program: isTribe, waysToChoose, Dawn.chooseRow, chooseRows -/
theorem ch_0 (n : Nat) : ch n 0 = 1 := by cases n <;> rfl
theorem ch_ss (n k : Nat) : ch (n + 1) (k + 1) = ch n k + ch n (k + 1) := by rw [ch]
theorem ch_le : ∀ n k, ch n k ≤ 2 ^ n
  | 0, 0 => Nat.le_refl _
  | 0, k + 1 => Nat.zero_le _
  | n + 1, 0 => by rw [ch_0]; exact Nat.one_le_two_pow
  | n + 1, k + 1 => by
    have h1 := ch_le n k
    have h2 := ch_le n (k + 1)
    rw [ch, Nat.pow_succ]; omega
theorem ch_abs : ∀ n k, (k + 1) * ch (n + 1) (k + 1) = (n + 1) * ch n k
  | 0, 0 => rfl
  | 0, k + 1 => by rw [ch_lt (n := 0 + 1) (by omega), ch_lt (n := 0) (by omega)]; simp
  | n + 1, 0 => by
    have ih := ch_abs n 0
    have e1 := ch_ss (n + 1) 0
    rw [ch_0] at ih
    rw [e1, ch_0]
    omega
  | n + 1, k + 1 => by
    have i1 := ch_abs n (k + 1)
    have i2 := ch_abs n k
    have e1 : ch (n + 1 + 1) (k + 1 + 1) = ch (n + 1) (k + 1) + ch (n + 1) (k + 1 + 1) := by rw [ch]
    have e2 : ch (n + 1) (k + 1) = ch n k + ch n (k + 1) := by rw [ch]
    rw [e1, Nat.mul_add, i1]
    rw [show (k + 1 + 1) * ch (n + 1) (k + 1) = (k + 1) * ch (n + 1) (k + 1) + ch (n + 1) (k + 1) by rw [Nat.add_mul (k + 1) 1, Nat.one_mul], i2]
    rw [show (n + 1 + 1) * ch (n + 1) (k + 1) = (n + 1) * ch (n + 1) (k + 1) + ch (n + 1) (k + 1) by rw [Nat.add_mul (n + 1) 1, Nat.one_mul]]
    generalize hz : ch (n + 1) (k + 1) = z at *
    rw [e2, Nat.mul_add]
    omega
theorem ch_div (n k : Nat) : ch n k * (n + 1) / (k + 1) = ch (n + 1) (k + 1) := by
  rw [Nat.mul_comm, ← ch_abs n k, Nat.mul_div_cancel_left _ (Nat.succ_pos _)]
def wtc (N : Nat) (k : Int32) : Int64 := if isC (N + 1) k then lN (ch N (sI k)) else 0
theorem wtc_nI {N k : Nat} (hN : N < 2 ^ 30) (hk : k < 2 ^ 30) : wtc N (nI k) = lN (ch N k) := by
  have hs : sI (nI k) = k := nI_clamp (by omega)
  by_cases h : k < N + 1
  · rw [wtc, if_pos ((inR_c (by omega)).mpr ⟨k, h, rfl⟩), hs]
  · rw [wtc, if_neg (by rw [isC_ge (by omega) (nI_le (by omega) (by omega))]; decide), ch_lt (by omega)]; rfl
set_option maxHeartbeats 4000000 in
set_option maxRecDepth 100000 in
/-- waysToChoose(N, k) -/
theorem ctX9_waysToChoose (l : Launch) (N : Nat) (k : Int32) (hN : N ≤ 30) : sMl l yX9_waysToChoose wsX9_waysToChoose ({ frames := 0, cells := 0, slots := 0, locals := 0 }) [.int (nI N), .int k] (wtc N k) := by
  refine sMl_of (cc := cX9_waysToChoose) (maxL := 5) (ret := (some .long)) (by decide) rfl (Nat.le_of_ble_eq_true rfl) ?_
  intro p e s m below meth c ls hat hl
  obtain ⟨hx, hb, hr, hml, hts, hown, hlocks⟩ := hat
  have hl : lv_has ls 5 [(0, .int (nI N)), (1, .int k)] := hl
  have hS : va_S (fun _ => False) s.heap s.heap [] := va_S.rf
  have hP : va_P (D := (fun _ => m.cls, fun _ _ => 0)) (cl := vwCl) [] s.heap := fun k q h => by simp at h
  refine lv_iload_n hx hb dX9_waysToChoose_0 rfl (lv_at hl 1 rfl) ?_
  refine lv_if_lt (tgt := 9) hx hb dX9_waysToChoose_1 (by decide) (fun c_1 => ?_) (fun c_1 => ?_)
  · have g1 : isC (N + 1) k = false := isC_neg (by omega) c_1
    refine lv_lconst (v := 0) hx hb dX9_waysToChoose_9 (by decide) ?_
    exact s_retl hx hb hr hlocks hS dX9_waysToChoose_10 (by rw [wtc, if_neg (by rw [g1]; decide)])
  · refine lv_iload_n hx hb dX9_waysToChoose_4 rfl (lv_at hl 1 rfl) ?_
    refine lv_iload_n hx hb dX9_waysToChoose_5 rfl (lv_at hl 0 rfl) ?_
    refine lv_icmp_le (tgt := 11) hx hb dX9_waysToChoose_6 (by decide) (fun c_6 => ?_) (fun c_6 => ?_)
    · obtain ⟨K, hK0, eK⟩ := nI_of c_1
      have hKN : K ≤ N := by rw [eK] at c_6; exact (nI_leI (by omega) (by omega)).mp c_6
      have hsK : sI k = K := by rw [eK]; exact nI_clamp hK0
      have hres : wtc N k = lN (ch N K) := by rw [eK]; exact wtc_nI (by omega) (by omega)
      refine lv_lconst (v := 1) hx hb dX9_waysToChoose_11 (by decide) ?_
      refine lv_lstore_n (lv' := [(2, .long 1), (0, .int (nI N)), (1, .int k)]) hx hb dX9_waysToChoose_12 rfl hl (by decide) rfl (fun ls hl => ?_)
      refine lv_iconst (v := 1) hx hb dX9_waysToChoose_13 (by decide) ?_
      refine lv_istore (lv' := [(4, .int 1), (2, .long 1), (0, .int (nI N)), (1, .int k)]) hx hb dX9_waysToChoose_14 hl (by decide) rfl (fun ls hl => ?_)
      have lp_16 : ∀ (n_16 : Nat) (j : Nat) (x2 : Int64) (x4 : Int32), (j ≤ K) → (K + 1 ≤ j + n_16) → (x4 = nI (j + 1)) → (x2 = lN (ch (N - K + j) j)) → ∀ (ls : Array Slot), lv_has ls 5 [(0, .int (nI N)), (1, .int k), (2, .long x2), (4, .int x4)] → W p l e (headSpec wsX9_waysToChoose ({ frames := 0, cells := 0, slots := 0, locals := 0 })).room s m ([.int (nI N), .int k] : List Value).toArray below meth c s.heap [] 0 0 (MQ below (va_Ql (fun r' (_ : Unit) => r' = wtc N k) (fun _ _ => True) (fun _ => False)) ([.int (nI N), .int k] : List Value).toArray s 0 0 (fun _ => False)) (F0 m 16 ls []) := by
        intro n_16
        induction n_16 with
        | zero =>
          intro j x2 x4 hj hf ex4 ex2
          exact absurd hf (by omega)
        | succ n_16 ih_16 =>
          intro j x2 x4 hj hf ex4 ex2 ls hl
          refine lv_iload hx hb dX9_waysToChoose_16 (lv_at hl 3 rfl) ?_
          refine lv_iload_n hx hb dX9_waysToChoose_18 rfl (lv_at hl 1 rfl) ?_
          refine lv_icmp_gt (tgt := 42) hx hb dX9_waysToChoose_19 (by decide) (fun c_19 => ?_) (fun c_19 => ?_)
          · have hjn : j = K := by rw [ex4, eK] at c_19; have := (nI_ltI (by omega) (by omega)).mp c_19; omega
            refine lv_lload_n hx hb dX9_waysToChoose_42 rfl (lv_at hl 2 rfl) ?_
            exact s_retl hx hb hr hlocks hS dX9_waysToChoose_43 (by rw [hres, ex2, hjn, Nat.sub_add_cancel hKN])
          · have hjn : j < K := by rw [ex4, eK] at c_19; exact Nat.not_le.mp (fun q => c_19 ((nI_ltI (by omega) (by omega)).mpr (by omega)))
            have hs1 : nI N - k + x4 = nI (N - K + j + 1) := by rw [eK, ex4, pk_sub hKN, nI_add]; rfl
            have hb1 := ch_le (N - K + j) j
            have hb2 : 2 ^ (N - K + j) ≤ 2 ^ 30 := Nat.pow_le_pow_right (by omega) (by omega)
            refine lv_lload_n hx hb dX9_waysToChoose_22 rfl (lv_at hl 2 rfl) ?_
            refine lv_iload_n hx hb dX9_waysToChoose_23 rfl (lv_at hl 0 rfl) ?_
            refine lv_iload_n hx hb dX9_waysToChoose_24 rfl (lv_at hl 1 rfl) ?_
            refine lv_isub hx hb dX9_waysToChoose_25 ?_
            refine lv_iload hx hb dX9_waysToChoose_26 (lv_at hl 3 rfl) ?_
            refine lv_iadd hx hb dX9_waysToChoose_28 ?_
            refine lv_i2l hx hb dX9_waysToChoose_29 rfl ?_
            refine lv_lmul hx hb dX9_waysToChoose_30 ?_
            refine lv_iload hx hb dX9_waysToChoose_31 (lv_at hl 3 rfl) ?_
            refine lv_i2l hx hb dX9_waysToChoose_33 rfl ?_
            refine lv_ldiv hx hb dX9_waysToChoose_34 (by rw [ex4, nI_l (by omega)]; exact fun q => by have := (pk_lEQ (b := 0) (by omega) (by omega)).mp q; omega) ?_
            refine lv_topl (fun x2_1 ex2_1 => ?_)
            refine lv_lstore_n (lv' := [(2, .long x2_1), (0, .int (nI N)), (1, .int k), (4, .int x4)]) hx hb dX9_waysToChoose_35 rfl hl (by decide) rfl (fun ls hl => ?_)
            obtain ⟨x4_2, ex4_2⟩ : ∃ z : Int32, z = x4 + 1 := ⟨_, rfl⟩
            refine lv_iinc (v := x4_2) (lv' := [(4, .int x4_2), (2, .long x2_1), (0, .int (nI N)), (1, .int k)]) hx hb dX9_waysToChoose_36 hl (k := 3) rfl (by rw [ex4_2]; rfl) (by decide) rfl (fun ls hl => ?_)
            refine lv_goto (tgt := 16) hx hb dX9_waysToChoose_39 (by decide) ?_
            exact ih_16 (j + 1) _ _ (by omega) (by omega) (by rw [ex4_2, ex4]; exact nI_1 _) (by rw [ex2_1, hs1, ex4, nI_l (by omega), nI_l (by omega), ex2, lN_mul, pk_lDiv (Nat.lt_of_le_of_lt (Nat.mul_le_mul (Nat.le_trans hb1 hb2) (show N - K + j + 1 ≤ 31 by omega)) (by decide)) (by omega) (by omega), ch_div]; rfl) _ (lv_sub hl [2, 3, 1, 0] rfl)
      exact lp_16 (K + 1) 0 _ _ (Nat.zero_le _) (by omega) rfl (by rw [ch_0]; rfl) _ (lv_sub hl [2, 3, 1, 0] rfl)
    · have g1 : isC (N + 1) k = false := by refine isC_ge (by omega) ?_; obtain ⟨K, hK0, eK⟩ := nI_of c_1; rw [eK] at c_6 ⊢; have h9 : ¬ K ≤ N := fun q => c_6 (nI_le q (by omega)); exact nI_le (by omega) hK0
      refine lv_lconst (v := 0) hx hb dX9_waysToChoose_9 (by decide) ?_
      exact s_retl hx hb hr hlocks hS dX9_waysToChoose_10 (by rw [wtc, if_neg (by rw [g1]; decide)])
