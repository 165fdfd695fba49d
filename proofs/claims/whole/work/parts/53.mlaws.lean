/-! the reference: laws -/
theorem KP_rlE {z : Nat} {v : mS} {x : Int32 × mS} (h : KP x.2 v) : KP (rlE z x).2 v := by
  unfold rlE
  refine KP_bnd h (fun u => ?_)
  split
  · exact KP_scn z u
  · exact KP_wrg u 1
theorem KP_rl (z : Nat) (v : mS) : KP (spReadLine z v).2 v := by
  unfold spReadLine
  split
  · split
    · exact KP_rlE (KP_rs z v)
    · split
      · have h := (KP_scn z (mrU v 13 (sI (v.1 4)) 1)).tr ((KP.rf v).r13 (sI (v.1 4)) 1)
        generalize scn z (mrU v 13 (sI (v.1 4)) 1) = vb at h
        split
        · unfold rlT
          split
          · exact KP_rlE ((KP_scn z _).tr (h.r10 423 _ (by omega)))
          · exact (KP_wrg vb 1).tr h
        · exact KP_rlE ((KP_num z vb _).tr h)
      · exact KP_wrg v 3
  · exact KP_wrg v 1
theorem lwA_1 (v : mS) : (lwA v).1 = (miU (miU (miU (lwS v) 8 0) 9 (-1)) 6 0).1 := by rw [lwA, lwT_1, lwD_1]
set_option maxHeartbeats 4000000 in
set_option maxRecDepth 100000 in
/-- laws(day) -/
theorem ctX10_laws (l : Launch) (D : va_G) (y : Nat → ClassId) (h : Nat) (a : Nat → Nat) (q qv : Nat) (v : mS) (day : Int32) (z T : Nat) (htp : v.1 1 = nI z) (hz1 : z ≤ 1000) (ht : v.1 12 = nI T) (hT : T ≤ 15) : nMi l yX10_laws wsX10_laws ({ frames := 10, cells := 0, slots := 0, locals := 222 }) D y h a q qv v [.ref h, .int day] (fun r v' => (r, v') = spLaws z T v day) := by
  refine nMi_of (cc := cX10_laws) (maxL := 3) (ret := (some .int)) rfl rfl (Nat.le_of_ble_eq_true rfl) ?_
  intro p e s m below meth c A ls hat hE hR hAe hl
  obtain ⟨hx, hb, hr, hml, hts, hown, hlocks, hK, hP, hD, hA⟩ := hat
  have hin : ∀ w ∈ wsX100, w ∈ wsX10_laws := fun _ h9 => List.mem_cons_of_mem _ (List.mem_append_right _ h9)
  have hl : lv_has ls 3 [(0, .ref h), (1, .int day)] := hl
  have hS : va_S A s.heap s.heap [] := va_S.rf
  refine lv_aload_n hx hb dX10_laws_0 rfl (lv_at hl 0 rfl) ?_
  refine lv_aload_n hx hb dX10_laws_1 rfl (lv_at hl 0 rfl) ?_
  refine mg_taped hx hb hts hin hown hK hP (by decide +kernel) dX10_laws_2 ?_
  refine mp_size hx hb hts hin hown hK hP hD hS (by decide +kernel) dX10_laws_5 (fun H locs hP hD hS => ?_)
  refine lv_aload_n hx hb dX10_laws_8 rfl (lv_at hl 0 rfl) ?_
  refine lv_iconst (v := 0) hx hb dX10_laws_9 (by decide) ?_
  refine mp_taped hx hb hts hin hown hK hP hD hS (by decide +kernel) dX10_laws_10 (fun H locs hP hD hS => ?_)
  have hP : va_P D vwCl (mW h a y (lwS v)) H := hP
  have hD : va_D A (mW h a y (lwS v)) := hD
  refine lv_iload_n hx hb dX10_laws_13 rfl (lv_at hl 1 rfl) ?_
  refine lv_i2l hx hb dX10_laws_14 rfl ?_
  refine lv_aload_n hx hb dX10_laws_15 rfl (lv_at hl 0 rfl) ?_
  refine mg_clock hx hb hts hin hown hK hP (by decide +kernel) dX10_laws_16 ?_
  refine lv_i2l hx hb dX10_laws_19 rfl ?_
  refine lv_ldc2 (v := 20000) hx hb hown (hts (.constantLong RX10 192 (20000)) (by decide +kernel)) dX10_laws_20 ?_
  refine s_calli (As := [.long (day.toInt64), .long _, .long 20000]) (rest := []) ⟨hx, hb, hml, hown, hts⟩ (ctX10_in l _ _ _) (cwS 3 hts gX10_laws_X10_in rfl rfl rfl (by decide +kernel) ⟨Nat.le_of_ble_eq_true rfl, Nat.le_of_ble_eq_true rfl⟩) hP hS rfl hl.1 rfl (Nat.le_of_ble_eq_true rfl) dX10_laws_23 ⟨Nat.zero_le _, Nat.zero_le _⟩ (fun H locs hP hS => ?_)
  refine lv_if_ne (tgt := 32) hx hb dX10_laws_26 (by decide) (fun c_26 => ?_) (fun c_26 => ?_)
  · rw [mIn_R, Int32.toInt_toInt64] at c_26
    have b26 : inR (v.1 14).toInt 20000 day = true := (zI_ne _).mp c_26
    refine lv_aload_n hx hb dX10_laws_32 rfl (lv_at hl 0 rfl) ?_
    refine lv_iconst (v := 0) hx hb dX10_laws_33 (by decide) ?_
    refine mp_faultKind hx hb hts hin hown hK hP hD hS (by decide +kernel) dX10_laws_34 (fun H locs hP hD hS => ?_)
    refine lv_aload_n hx hb dX10_laws_37 rfl (lv_at hl 0 rfl) ?_
    refine lv_iconst (v := (-1)) hx hb dX10_laws_38 (by decide) ?_
    refine mp_faultPlace hx hb hts hin hown hK hP hD hS (by decide +kernel) dX10_laws_39 (fun H locs hP hD hS => ?_)
    refine lv_aload_n hx hb dX10_laws_42 rfl (lv_at hl 0 rfl) ?_
    refine lv_iconst (v := 0) hx hb dX10_laws_43 (by decide) ?_
    refine mp_end hx hb hts hin hown hK hP hD hS (by decide +kernel) dX10_laws_44 (fun H locs hP hD hS => ?_)
    refine lv_iconst (v := 0) hx hb dX10_laws_47 (by decide) ?_
    refine lv_istore_n (lv' := [(2, .int 0), (0, .ref h), (1, .int day)]) hx hb dX10_laws_48 rfl hl (by decide) rfl (fun ls hl => ?_)
    have lp_49 : ∀ (n_49 : Nat) (k : Nat) (u : mS) (x2 : Int32), (k ≤ 28) → (28 + 1 ≤ k + n_49) → (x2 = nI k) → (u = lwD (miU (miU (miU (lwS v) 8 0) 9 (-1)) 6 0) k) → ∀ (H : Heap) (locs : List Loc), va_P D vwCl (mW h a y u) H → va_D A (mW h a y u) → va_S A s.heap H locs → ∀ (ls : Array Slot), lv_has ls 3 [(0, .ref h), (1, .int day), (2, .int x2)] → W p l e (headSpec wsX10_laws ({ frames := 10, cells := 0, slots := 0, locals := 222 })).room s m ([.ref h, .int day] : List Value).toArray below meth c H locs 0 0 (MQ below (va_Qi (fun r v' => (r, v') = spLaws z T v day) (mEnd D y h a s.heap.size) A) ([.ref h, .int day] : List Value).toArray s 0 0 A) (F0 m 49 ls []) := by
      intro n_49
      induction n_49 with
      | zero =>
        intro k u x2 hk0 hf ex2 hu
        exact absurd hf (by omega)
      | succ n_49 ih_49 =>
        intro k u x2 hk0 hf ex2 hu H locs hP hD hS ls hl
        refine lv_iload_n hx hb dX10_laws_49 rfl (lv_at hl 2 rfl) ?_
        refine lv_bipush (v := 28) hx hb dX10_laws_50 (by decide) ?_
        refine lv_icmp_ge (tgt := 75) hx hb dX10_laws_52 (by decide) (fun c_52 => ?_) (fun c_52 => ?_)
        · have hkn : k = 28 := by rw [ex2] at c_52; have := (nI_leI (a := 28) (by omega) (by omega)).mp c_52; omega
          refine lv_iconst (v := 0) hx hb dX10_laws_75 (by decide) ?_
          refine lv_istore_n (lv' := [(2, .int 0), (0, .ref h), (1, .int day)]) hx hb dX10_laws_76 rfl hl (by decide) rfl (fun ls hl => ?_)
          have lp_77 : ∀ (n_77 : Nat) (k : Nat) (u2 : mS) (x2 : Int32), (k ≤ 10) → (10 + 1 ≤ k + n_77) → (x2 = nI k) → (u2 = lwT (lwD (miU (miU (miU (lwS v) 8 0) 9 (-1)) 6 0) 28) k) → ∀ (H : Heap) (locs : List Loc), va_P D vwCl (mW h a y u2) H → va_D A (mW h a y u2) → va_S A s.heap H locs → ∀ (ls : Array Slot), lv_has ls 3 [(0, .ref h), (1, .int day), (2, .int x2)] → W p l e (headSpec wsX10_laws ({ frames := 10, cells := 0, slots := 0, locals := 222 })).room s m ([.ref h, .int day] : List Value).toArray below meth c H locs 0 0 (MQ below (va_Qi (fun r v' => (r, v') = spLaws z T v day) (mEnd D y h a s.heap.size) A) ([.ref h, .int day] : List Value).toArray s 0 0 A) (F0 m 77 ls []) := by
            intro n_77
            induction n_77 with
            | zero =>
              intro k u2 x2 hk0 hf ex2 hu2
              exact absurd hf (by omega)
            | succ n_77 ih_77 =>
              intro k u2 x2 hk0 hf ex2 hu2 H locs hP hD hS ls hl
              refine lv_iload_n hx hb dX10_laws_77 rfl (lv_at hl 2 rfl) ?_
              refine lv_bipush (v := 10) hx hb dX10_laws_78 (by decide) ?_
              refine lv_icmp_ge (tgt := 96) hx hb dX10_laws_80 (by decide) (fun c_80 => ?_) (fun c_80 => ?_)
              · have hkn : k = 10 := by rw [ex2] at c_80; have := (nI_leI (a := 10) (by omega) (by omega)).mp c_80; omega
                have hP : va_P D vwCl (mW h a y (lwA v)) H := by rw [hu2, hkn] at hP; exact hP
                have hD : va_D A (mW h a y (lwA v)) := by rw [hu2, hkn] at hD; exact hD
                have hIA : PI z (lwA v) := by unfold PI; rw [lwA_1]; exact ⟨rfl, Nat.zero_le _, htp, hz1⟩
                refine lv_aload_n hx hb dX10_laws_96 rfl (lv_at hl 0 rfl) ?_
                refine n_callv (As := []) (rest := []) ⟨hx, hb, hml, hown, hts⟩ (ctX10_scan l D y h a q qv (lwA v) (sI ((lwA v).1 6)) z hIA.1 hIA.2.1 hIA.2.2.1 hIA.2.2.2) (cwV 0 hts gX10_laws_X10_scan rfl rfl rfl (by decide +kernel) ⟨Nat.le_of_ble_eq_true rfl, Nat.le_of_ble_eq_true rfl⟩) hE hR hK hP hD hS hA rfl hl.1 rfl (Nat.le_of_ble_eq_true rfl) dX10_laws_97 ⟨Nat.zero_le _, Nat.zero_le _⟩ (fun vb H locs evb hP hD hS => ?_)
                have lp_100 : ∀ (n_100 : Nat) (u : mS), (1002 ≤ n_100 + sI (u.1 6)) → (PI z u) → (u.1 3 = 1 → ∃ j, j < 10 ∧ u.1 4 = nI j) → (KP u (lwA v)) → (lwR z (scn z (lwA v)) = lwR z u) → ∀ (H : Heap) (locs : List Loc), va_P D vwCl (mW h a y u) H → va_D A (mW h a y u) → va_S A s.heap H locs → ∀ (ls : Array Slot), lv_has ls 3 [(0, .ref h), (1, .int day)] → W p l e (headSpec wsX10_laws ({ frames := 10, cells := 0, slots := 0, locals := 222 })).room s m ([.ref h, .int day] : List Value).toArray below meth c H locs 0 0 (MQ below (va_Qi (fun r v' => (r, v') = spLaws z T v day) (mEnd D y h a s.heap.size) A) ([.ref h, .int day] : List Value).toArray s 0 0 A) (F0 m 100 ls []) := by
                  intro n_100
                  induction n_100 with
                  | zero =>
                    intro u hf hIu hWu hku hres
                    intro H locs hP hD hS ls hl; have h7 := hIu.2.1; omega
                  | succ n_100 ih_100 =>
                    intro u hf hIu hWu hku hres H locs hP hD hS ls hl
                    refine lv_aload_n hx hb dX10_laws_100 rfl (lv_at hl 0 rfl) ?_
                    refine mg_sort hx hb hts hin hown hK hP (by decide +kernel) dX10_laws_101 ?_
                    refine lv_iconst (v := 4) hx hb dX10_laws_104 (by decide) ?_
                    refine lv_icmp_eq (tgt := 121) hx hb dX10_laws_105 (by decide) (fun c_105 => ?_) (fun c_105 => ?_)
                    · have hu12 : u.1 12 = nI T := by rw [hku.1 12 (by omega), lwA_1]; exact ht
                      refine lv_aload_n hx hb dX10_laws_121 rfl (lv_at hl 0 rfl) ?_
                      refine mg_texts hx hb hts hin hown hK hP (by decide +kernel) dX10_laws_122 ?_
                      refine lv_bipush (v := 15) hx hb dX10_laws_125 (by decide) ?_
                      refine lv_icmp_ne (tgt := 133) hx hb dX10_laws_127 (by decide) (fun c_127 => ?_) (fun c_127 => ?_)
                      · have hT1 : ¬ T = 15 := fun q9 => c_127 (by rw [hu12, q9]; rfl)
                        refine lv_iconst (v := 0) hx hb dX10_laws_133 (by decide) ?_
                        refine lv_istore_n (lv' := [(2, .int 0), (0, .ref h), (1, .int day)]) hx hb dX10_laws_134 rfl hl (by decide) rfl (fun ls hl => ?_)
                        have lp_135 : ∀ (n_135 : Nat) (k : Nat) (w : mS) (x2 : Int32), (k ≤ 28) → (28 + 1 ≤ k + n_135) → (x2 = nI k) → (w = lwC T u k) → ∀ (H : Heap) (locs : List Loc), va_P D vwCl (mW h a y w) H → va_D A (mW h a y w) → va_S A s.heap H locs → ∀ (ls : Array Slot), lv_has ls 3 [(0, .ref h), (1, .int day), (2, .int x2)] → W p l e (headSpec wsX10_laws ({ frames := 10, cells := 0, slots := 0, locals := 222 })).room s m ([.ref h, .int day] : List Value).toArray below meth c H locs 0 0 (MQ below (va_Qi (fun r v' => (r, v') = spLaws z T v day) (mEnd D y h a s.heap.size) A) ([.ref h, .int day] : List Value).toArray s 0 0 A) (F0 m 135 ls []) := by
                          intro n_135
                          induction n_135 with
                          | zero =>
                            intro k w x2 hk0 hf2 ex2 hwe
                            exact absurd hf2 (by omega)
                          | succ n_135 ih_135 =>
                            intro k w x2 hk0 hf2 ex2 hwe H locs hP hD hS ls hl
                            have hw12 : w.1 12 = nI T := by rw [hwe, lwC_1]; exact hu12
                            refine lv_iload_n hx hb dX10_laws_135 rfl (lv_at hl 2 rfl) ?_
                            refine lv_bipush (v := 28) hx hb dX10_laws_136 (by decide) ?_
                            refine lv_icmp_ge (tgt := 171) hx hb dX10_laws_138 (by decide) (fun c_138 => ?_) (fun c_138 => ?_)
                            · have hkn : k = 28 := by rw [ex2] at c_138; have := (nI_leI (a := 28) (by omega) (by omega)).mp c_138; omega
                              refine lv_aload_n hx hb dX10_laws_171 rfl (lv_at hl 0 rfl) ?_
                              refine mg_firstDay hx hb hts hin hown hK hP (by decide +kernel) dX10_laws_172 ?_
                              refine lv_aload_n hx hb dX10_laws_175 rfl (lv_at hl 0 rfl) ?_
                              refine mg_texts hx hb hts hin hown hK hP (by decide +kernel) dX10_laws_176 ?_
                              refine lv_iload_n hx hb dX10_laws_179 rfl (lv_at hl 1 rfl) ?_
                              refine ms_firstDay hx hb hK hP hD hS (by rw [hw12]; exact vp_in_nI (by omega) (by omega)) dX10_laws_180 (fun H locs hP hD hS => ?_)
                              rw [hw12, nI_clamp (by omega)] at hP hD
                              refine lv_aload_n hx hb dX10_laws_181 rfl (lv_at hl 0 rfl) ?_
                              refine lv_dup hx hb dX10_laws_182 rfl ?_
                              refine mg_texts hx hb hts hin hown hK hP (by decide +kernel) dX10_laws_183 ?_
                              refine lv_iconst (v := 1) hx hb dX10_laws_186 (by decide) ?_
                              refine lv_iadd hx hb dX10_laws_187 ?_
                              refine mp_texts hx hb hts hin hown hK hP hD hS (by decide +kernel) dX10_laws_188 (fun H locs hP hD hS => ?_)
                              rw [show (mrU w 11 T day).1 12 + 1 = nI (T + 1) by show w.1 12 + 1 = _; rw [hw12, nI_1]] at hP hD
                              refine lv_aload_n hx hb dX10_laws_191 rfl (lv_at hl 0 rfl) ?_
                              refine mg_texts hx hb hts hin hown hK hP (by decide +kernel) dX10_laws_192 ?_
                              refine lv_iconst (v := 1) hx hb dX10_laws_195 (by decide) ?_
                              refine lv_isub hx hb dX10_laws_196 ?_
                              exact m_reti hx hb hr hlocks hAe hK hP hD hS rfl dX10_laws_197 (by rw [spLaws, if_pos b26, hres, lwR_0 c_105, if_neg (show ¬ (1 : Int32) = 0 by decide), lwE, if_neg hT1]; rw [show (miU (mrU w 11 T day) 12 (nI (T + 1))).1 12 - 1 = nI T from nI_pred T, hwe, hkn])
                            · have hkn : k < 28 := by rw [ex2] at c_138; exact Nat.not_le.mp (fun q9 => c_138 (nI_le (a := 28) q9 (by omega)))
                              have hix : (420 : Int32) + x2 = nI (420 + k) := by rw [ex2, show (420 : Int32) = nI 420 from rfl, nI_add]
                              have hiy : (28 : Int32) * w.1 12 + x2 = nI (28 * T + k) := by rw [hw12, ex2, show (28 : Int32) = nI 28 from rfl, pk_mul, nI_add]
                              refine lv_aload_n hx hb dX10_laws_141 rfl (lv_at hl 0 rfl) ?_
                              refine mg_laws hx hb hts hin hown hK hP (by decide +kernel) dX10_laws_142 ?_
                              refine lv_bipush (v := 28) hx hb dX10_laws_145 (by decide) ?_
                              refine lv_aload_n hx hb dX10_laws_147 rfl (lv_at hl 0 rfl) ?_
                              refine mg_texts hx hb hts hin hown hK hP (by decide +kernel) dX10_laws_148 ?_
                              refine lv_imul hx hb dX10_laws_151 ?_
                              refine lv_iload_n hx hb dX10_laws_152 rfl (lv_at hl 2 rfl) ?_
                              refine lv_iadd hx hb dX10_laws_153 ?_
                              refine lv_aload_n hx hb dX10_laws_154 rfl (lv_at hl 0 rfl) ?_
                              refine mg_laws hx hb hts hin hown hK hP (by decide +kernel) dX10_laws_155 ?_
                              refine lv_sipush (v := 420) hx hb dX10_laws_158 (by decide) ?_
                              refine lv_iload_n hx hb dX10_laws_161 rfl (lv_at hl 2 rfl) ?_
                              refine lv_iadd hx hb dX10_laws_162 ?_
                              refine ml_laws hx hb hK hP (by rw [hix]; exact vp_in_nI (by omega) (by omega)) dX10_laws_163 ?_
                              refine ms_laws hx hb hK hP hD hS (by rw [hiy]; exact vp_in_nI (by omega) (by omega)) dX10_laws_164 (fun H locs hP hD hS => ?_)
                              rw [hiy, hix, nI_clamp (by omega), nI_clamp (by omega)] at hP hD
                              obtain ⟨x2_1, ex2_1⟩ : ∃ z : Int32, z = x2 + 1 := ⟨_, rfl⟩
                              refine lv_iinc (v := x2_1) (lv' := [(2, .int x2_1), (0, .ref h), (1, .int day)]) hx hb dX10_laws_165 hl (k := 2) rfl (by rw [ex2_1]; rfl) (by decide) rfl (fun ls hl => ?_)
                              refine lv_goto (tgt := 135) hx hb dX10_laws_168 (by decide) ?_
                              exact ih_135 (k + 1) _ _ (by omega) (by omega) (by rw [ex2_1, ex2]; exact nI_1 _) (by rw [hwe, lwC]) _ _ hP hD hS _ (lv_sub hl [1, 2, 0] rfl)
                        exact lp_135 29 0 _ _ (Nat.zero_le _) (by omega) rfl rfl _ _ hP hD hS _ (lv_sub hl [1, 2, 0] rfl)
                      · have hT1 : T = 15 := by rw [hu12] at c_127; exact (nI_eq (b := 15) (by omega) (by omega)).mp c_127
                        refine lv_bipush (v := (-3)) hx hb dX10_laws_130 (by decide) ?_
                        exact m_reti hx hb hr hlocks hAe hK hP hD hS rfl dX10_laws_132 (by rw [spLaws, if_pos b26, hres, lwR_0 c_105, if_neg (show ¬ (1 : Int32) = 0 by decide), lwE, if_pos hT1])
                    · refine lv_aload_n hx hb dX10_laws_108 rfl (lv_at hl 0 rfl) ?_
                      refine lv_aload_n hx hb dX10_laws_109 rfl (lv_at hl 0 rfl) ?_
                      refine mg_told hx hb hts hin hown hK hP (by decide +kernel) dX10_laws_110 ?_
                      refine n_calli (As := [.ref (a 13)]) (rest := []) ⟨hx, hb, hml, hown, hts⟩ (ctX10_readLine l D y h a q qv u z hIu hWu) (cwV 1 hts gX10_laws_X10_readLine rfl rfl rfl (by decide +kernel) ⟨Nat.le_of_ble_eq_true rfl, Nat.le_of_ble_eq_true rfl⟩) hE hR hK hP hD hS hA rfl hl.1 rfl (Nat.le_of_ble_eq_true rfl) dX10_laws_113 ⟨Nat.zero_le _, Nat.zero_le _⟩ (fun r1 u1 H locs hq1 hP hD hS => ?_)
                      refine lv_if_ne (tgt := 100) hx hb dX10_laws_116 (by decide) (fun c_116 => ?_) (fun c_116 => ?_)
                      · exact ih_100 u1 (by have h8 := (rl_adv hIu).2 (by rw [← hq1]; exact c_116); rw [← hq1] at h8; have := h8.1; dsimp only at this; omega) (by have h8 := (rl_adv hIu).1; rw [← hq1] at h8; exact h8) (by have h8 := (rl_adv hIu).2 (by rw [← hq1]; exact c_116); rw [← hq1] at h8; obtain ⟨-, w9, -, e9⟩ := h8; dsimp only at e9; rw [e9]; exact scn_what) (by have h8 := KP_rl z u; rw [← hq1] at h8; exact h8.tr hku) (by rw [hres, lwR_s hIu c_105, ← hq1, bnd, if_neg c_116]) _ _ hP hD hS _ (lv_sub hl [0, 1] rfl)
                      · refine lv_iconst (v := (-1)) hx hb dX10_laws_119 (by decide) ?_
                        exact m_reti hx hb hr hlocks hAe hK hP hD hS rfl dX10_laws_120 (by rw [spLaws, if_pos b26, hres, lwR_s hIu c_105, ← hq1, bnd, if_pos c_116, if_pos rfl])
                exact lp_100 1002 _ (by omega) (by rw [show vb = scn z (lwA v) from evb]; exact PI_scn hIA) (by rw [show vb = scn z (lwA v) from evb]; exact scn_what) (by rw [show vb = scn z (lwA v) from evb]; exact KP_scn z _) (by rw [show vb = scn z (lwA v) from evb]) _ _ hP hD hS _ (lv_sub hl [0, 1] rfl)
              · have hkn : k < 10 := by rw [ex2] at c_80; exact Nat.not_le.mp (fun q9 => c_80 (nI_le (a := 10) q9 (by omega)))
                refine lv_aload_n hx hb dX10_laws_83 rfl (lv_at hl 0 rfl) ?_
                refine mg_told hx hb hts hin hown hK hP (by decide +kernel) dX10_laws_84 ?_
                refine lv_iload_n hx hb dX10_laws_87 rfl (lv_at hl 2 rfl) ?_
                refine lv_iconst (v := 0) hx hb dX10_laws_88 (by decide) ?_
                refine ms_told hx hb hK hP hD hS (by rw [ex2]; exact vp_in_nI hkn (by omega)) dX10_laws_89 (fun H locs hP hD hS => ?_)
                rw [nar0, ex2, nI_clamp (by omega)] at hP hD
                obtain ⟨x2_2, ex2_2⟩ : ∃ z : Int32, z = x2 + 1 := ⟨_, rfl⟩
                refine lv_iinc (v := x2_2) (lv' := [(2, .int x2_2), (0, .ref h), (1, .int day)]) hx hb dX10_laws_90 hl (k := 2) rfl (by rw [ex2_2]; rfl) (by decide) rfl (fun ls hl => ?_)
                refine lv_goto (tgt := 77) hx hb dX10_laws_93 (by decide) ?_
                exact ih_77 (k + 1) _ _ (by omega) (by omega) (by rw [ex2_2, ex2]; exact nI_1 _) (by rw [hu2, lwT]) _ _ hP hD hS _ (lv_sub hl [1, 2, 0] rfl)
          exact lp_77 11 0 _ _ (Nat.zero_le _) (by omega) rfl (by rw [hu, hkn]; rfl) _ _ hP hD hS _ (lv_sub hl [1, 2, 0] rfl)
        · have hkn : k < 28 := by rw [ex2] at c_52; exact Nat.not_le.mp (fun q9 => c_52 (nI_le (a := 28) q9 (by omega)))
          have hix : (420 : Int32) + x2 = nI (420 + k) := by rw [ex2, show (420 : Int32) = nI 420 from rfl, nI_add]
          refine lv_aload_n hx hb dX10_laws_55 rfl (lv_at hl 0 rfl) ?_
          refine mg_laws hx hb hts hin hown hK hP (by decide +kernel) dX10_laws_56 ?_
          refine lv_sipush (v := 420) hx hb dX10_laws_59 (by decide) ?_
          refine lv_iload_n hx hb dX10_laws_62 rfl (lv_at hl 2 rfl) ?_
          refine lv_iadd hx hb dX10_laws_63 ?_
          refine lv_iload_n hx hb dX10_laws_64 rfl (lv_at hl 2 rfl) ?_
          refine s_calli (As := [.int x2]) (rest := [.int ((420) + (x2)), .ref (a 10)]) ⟨hx, hb, hml, hown, hts⟩ (ctX10_plain l x2) (cwS 1 hts gX10_laws_X10_plain rfl rfl rfl (by decide +kernel) ⟨Nat.le_of_ble_eq_true rfl, Nat.le_of_ble_eq_true rfl⟩) hP hS rfl hl.1 rfl (Nat.le_of_ble_eq_true rfl) dX10_laws_65 ⟨Nat.zero_le _, Nat.zero_le _⟩ (fun H locs hP hS => ?_)
          refine ms_laws hx hb hK hP hD hS (by rw [hix]; exact vp_in_nI (by omega) (by omega)) dX10_laws_68 (fun H locs hP hD hS => ?_)
          rw [hix, nI_clamp (by omega), ex2] at hP hD
          obtain ⟨x2_3, ex2_3⟩ : ∃ z : Int32, z = x2 + 1 := ⟨_, rfl⟩
          refine lv_iinc (v := x2_3) (lv' := [(2, .int x2_3), (0, .ref h), (1, .int day)]) hx hb dX10_laws_69 hl (k := 2) rfl (by rw [ex2_3]; rfl) (by decide) rfl (fun ls hl => ?_)
          refine lv_goto (tgt := 49) hx hb dX10_laws_72 (by decide) ?_
          exact ih_49 (k + 1) _ _ (by omega) (by omega) (by rw [ex2_3, ex2]; exact nI_1 _) (by rw [hu, lwD]) _ _ hP hD hS _ (lv_sub hl [1, 2, 0] rfl)
    exact lp_49 29 0 _ _ (Nat.zero_le _) (by omega) rfl rfl _ _ hP hD hS _ (lv_sub hl [1, 2, 0] rfl)
  · rw [mIn_R, Int32.toInt_toInt64] at c_26
    have b26 : inR (v.1 14).toInt 20000 day = false := (zI_eq _).mp c_26
    refine lv_bipush (v := (-2)) hx hb dX10_laws_29 (by decide) ?_
    exact m_reti hx hb hr hlocks hAe hK hP hD hS rfl dX10_laws_31 (by rw [spLaws, if_neg (by rw [b26]; decide)])
