/-! the reference: a line -/
theorem PI_bnd {z : Nat} {x : Int32 × mS} {f : mS → Int32 × mS} (h : PI z x.2) (hf : ∀ u, PI z u → PI z (f u).2) : PI z (bnd x f).2 := by
  unfold bnd
  split
  · exact h
  · exact hf _ h
theorem PI_w2 {z : Nat} {v : mS} (w : Int32) (h : PI z v) : PI z (spWord z v w).2 := PI_word (u := (spWord z v w).2) (r := (spWord z v w).1) h rfl
theorem PI_n2 {z : Nat} {v : mS} (w : Nat) (h : PI z v) : PI z (spNumber z v w).2 := PI_num (u := (spNumber z v w).2) (r := (spNumber z v w).1) h rfl
theorem PI_rsC {z k : Nat} {u : mS} (h : PI z u) : PI z (rsC z k u).2 := PI_bnd (PI_w2 9 h) (fun b hb => PI_bnd (PI_n2 _ hb) (fun c hc => hc))
theorem PI_rsD {z k : Nat} {u : mS} (h : PI z u) : PI z (rsD z k u).2 := by
  unfold rsD
  split
  · exact PI_bnd (PI_n2 _ (PI_scn h)) (fun b hb => PI_bnd (PI_w2 7 hb) (fun c hc => PI_bnd (PI_n2 _ hc) (fun d hd => PI_rsC hd)))
  · exact PI_rsC h
theorem PI_rs {z : Nat} {v : mS} (h : PI z v) : PI z (spReadSuit z v).2 := by
  unfold spReadSuit rsA
  have h1 := PI_scn h
  split
  · split
    · split
      · exact PI_bnd (PI_w2 7 (PI_scn (PI_row h1 _ _ _))) (fun b hb => PI_bnd (PI_n2 _ hb) (fun c hc => PI_rsD (PI_row hc _ _ _)))
      · exact PI_wrg h1 3
    · exact PI_wrg h1 2
  · exact PI_wrg h1 1
theorem scn_what {z : Nat} {v : mS} (h : (scn z v).1 3 = 1) : ∃ j, j < 10 ∧ (scn z v).1 4 = nI j := by
  unfold scn spScan at h ⊢
  generalize scP v z (sI (v.1 6)) = P at h ⊢
  unfold scS at h ⊢
  split
  · rename_i a; rw [if_pos a] at h; exact absurd (show (4 : Int32) = 1 from h) (by decide)
  · rename_i a
    rw [if_neg a] at h
    split
    · rename_i b; rw [if_pos b] at h
      have h9 : (if mKey v z P (pastOf isSm v z (P + 1) - P) = -1 then (0 : Int32) else 1) = 1 := h
      have hk : ¬ mKey v z P (pastOf isSm v z (P + 1) - P) = -1 := fun q => by rw [if_pos q] at h9; exact absurd h9 (by decide)
      have hlt := Decidable.not_not.mp (fun q => hk ((fInt_m1 (by decide)).mpr q))
      exact ⟨_, hlt, fInt_s hlt⟩
    · rename_i b
      rw [if_neg b] at h
      split
      · rename_i c; rw [if_pos c] at h
        have h9 : (if 5 < pastOf isDg v z (P + 1) - P then (0 : Int32) else 2) = 1 := h
        split at h9
        · exact absurd h9 (by decide)
        · exact absurd h9 (by decide)
      · rename_i c; rw [if_neg c] at h
        have h9 : (if mSee v z P = 59 then (3 : Int32) else 0) = 1 := h
        split at h9
        · exact absurd h9 (by decide)
        · exact absurd h9 (by decide)
def rlE (z : Nat) (x : Int32 × mS) : Int32 × mS := bnd x (fun u => if u.1 3 = 3 then (1, scn z u) else (0, wrg u 1))
def rlT (z : Nat) (u : mS) : Int32 × mS := if u.1 3 = 1 ∧ (u.1 4 = 5 ∨ u.1 4 = 6) then rlE z (1, scn z (mrU u 10 423 (if u.1 4 = 6 then 1 else 0))) else (0, wrg u 1)
def spReadLine (z : Nat) (v : mS) : Int32 × mS := if v.1 3 = 1 ∧ v.1 4 ≤ 4 then (if v.1 4 = 4 then rlE z (spReadSuit z v) else if v.2.1 13 (sI (v.1 4)) = 0 then (if v.1 4 = 3 then rlT z (scn z (mrU v 13 (sI (v.1 4)) 1)) else rlE z (spNumber z (scn z (mrU v 13 (sI (v.1 4)) 1)) (sI (v.1 4)))) else (0, wrg v 3)) else (0, wrg v 1)
set_option maxHeartbeats 4000000 in
set_option maxRecDepth 100000 in
/-- readLine(told) -/
theorem ctX10_readLine (l : Launch) (D : va_G) (y : Nat → ClassId) (h : Nat) (a : Nat → Nat) (q qv : Nat) (v : mS) (z : Nat) (hI : PI z v) (hW : v.1 3 = 1 → ∃ j, j < 10 ∧ v.1 4 = nI j) : nMi l yX10_readLine wsX10_readLine ({ frames := 9, cells := 0, slots := 0, locals := 199 }) D y h a q qv v [.ref h, .ref (a 13)] (fun r v' => (r, v') = spReadLine z v) := by
  refine nMi_of (cc := cX10_readLine) (maxL := 4) (ret := (some .boolean)) rfl rfl (Nat.le_of_ble_eq_true rfl) ?_
  intro p e s m below meth c A ls hat hE hR hAe hl
  obtain ⟨hx, hb, hr, hml, hts, hown, hlocks, hK, hP, hD, hA⟩ := hat
  have hin : ∀ w ∈ wsX100, w ∈ wsX10_readLine := fun _ h9 => List.mem_cons_of_mem _ (List.mem_append_right _ h9)
  have hl : lv_has ls 4 [(0, .ref h), (1, .ref (a 13))] := hl
  have hS : va_S A s.heap s.heap [] := va_S.rf
  refine lv_aload_n hx hb dX10_readLine_0 rfl (lv_at hl 0 rfl) ?_
  refine mg_sort hx hb hts hin hown hK hP (by decide +kernel) dX10_readLine_1 ?_
  refine lv_iconst (v := 1) hx hb dX10_readLine_4 (by decide) ?_
  refine lv_icmp_ne (tgt := 16) hx hb dX10_readLine_5 (by decide) (fun c_5 => ?_) (fun c_5 => ?_)
  · refine lv_aload_n hx hb dX10_readLine_16 rfl (lv_at hl 0 rfl) ?_
    refine lv_iconst (v := 1) hx hb dX10_readLine_17 (by decide) ?_
    refine m_calli (As := [.int 1]) (rest := []) ⟨hx, hb, hml, hown, hts⟩ (ctX10_wrong l D y h a v 1) (cwV 1 hts gX10_readLine_X10_wrong rfl rfl rfl (by decide +kernel) ⟨Nat.le_of_ble_eq_true rfl, Nat.le_of_ble_eq_true rfl⟩) hK hP hD hS hA rfl hl.1 rfl (Nat.le_of_ble_eq_true rfl) dX10_readLine_18 ⟨Nat.zero_le _, Nat.zero_le _⟩ (fun r18 v18 H locs hw18 hP hD hS => ?_)
    exact m_reti hx hb hr hlocks hAe hK hP hD hS (by rw [hw18.1]; rfl) dX10_readLine_21 (by rw [hw18.1, hw18.2, spReadLine, if_neg (fun q9 => c_5 q9.1)]; rfl)
  · refine lv_aload_n hx hb dX10_readLine_8 rfl (lv_at hl 0 rfl) ?_
    refine mg_what hx hb hts hin hown hK hP (by decide +kernel) dX10_readLine_9 ?_
    refine lv_iconst (v := 4) hx hb dX10_readLine_12 (by decide) ?_
    refine lv_icmp_le (tgt := 22) hx hb dX10_readLine_13 (by decide) (fun c_13 => ?_) (fun c_13 => ?_)
    · obtain ⟨jw, hjw, ejw⟩ := hW c_5
      have hj4 : jw ≤ 4 := by rw [ejw] at c_13; exact (nI_leI (b := 4) (by omega) (by omega)).mp c_13
      have hsw : sI (v.1 4) = jw := by rw [ejw]; exact nI_clamp (by omega)
      have hok : v.1 3 = 1 ∧ v.1 4 ≤ 4 := ⟨c_5, c_13⟩
      refine lv_aload_n hx hb dX10_readLine_22 rfl (lv_at hl 0 rfl) ?_
      refine mg_what hx hb hts hin hown hK hP (by decide +kernel) dX10_readLine_23 ?_
      refine lv_topi (fun x2 ex2 => ?_)
      refine lv_istore_n (lv' := [(2, .int x2), (0, .ref h), (1, .ref (a 13))]) hx hb dX10_readLine_26 rfl hl (by decide) rfl (fun ls hl => ?_)
      have ex2j : x2 = nI jw := by rw [ex2, ejw]
      have hcw2 : x2.toNatClampNeg = jw := by rw [ex2j]; exact nI_clamp (by omega)
      have j_134 : ∀ (u : mS) (x3 : Int32), (PI z u) → (spReadLine z v = rlE z (x3, u)) → ∀ (H : Heap) (locs : List Loc), va_P D vwCl (mW h a y u) H → va_D A (mW h a y u) → va_S A s.heap H locs → ∀ (ls : Array Slot), lv_has ls 4 [(0, .ref h), (3, .int x3)] → W p l e (headSpec wsX10_readLine ({ frames := 9, cells := 0, slots := 0, locals := 199 })).room s m ([.ref h, .ref (a 13)] : List Value).toArray below meth c H locs 0 0 (MQ below (va_Qi (fun r v' => (r, v') = spReadLine z v) (mEnd D y h a s.heap.size) A) ([.ref h, .ref (a 13)] : List Value).toArray s 0 0 A) (F0 m 134 ls []) := by
        intro u x3 hIu hre H locs hP hD hS ls hl
        refine lv_iload_n hx hb dX10_readLine_134 rfl (lv_at hl 1 rfl) ?_
        refine lv_if_ne (tgt := 140) hx hb dX10_readLine_135 (by decide) (fun c_135 => ?_) (fun c_135 => ?_)
        · refine lv_aload_n hx hb dX10_readLine_140 rfl (lv_at hl 0 rfl) ?_
          refine mg_sort hx hb hts hin hown hK hP (by decide +kernel) dX10_readLine_141 ?_
          refine lv_iconst (v := 3) hx hb dX10_readLine_144 (by decide) ?_
          refine lv_icmp_eq (tgt := 154) hx hb dX10_readLine_145 (by decide) (fun c_145 => ?_) (fun c_145 => ?_)
          · refine lv_aload_n hx hb dX10_readLine_154 rfl (lv_at hl 0 rfl) ?_
            refine n_callv (As := []) (rest := []) ⟨hx, hb, hml, hown, hts⟩ (ctX10_scan l D y h a q qv (u) (sI ((u).1 6)) z (hIu).1 (hIu).2.1 (hIu).2.2.1 (hIu).2.2.2) (cwV 0 hts gX10_readLine_X10_scan rfl rfl rfl (by decide +kernel) ⟨Nat.le_of_ble_eq_true rfl, Nat.le_of_ble_eq_true rfl⟩) hE hR hK hP hD hS hA rfl hl.1 rfl (Nat.le_of_ble_eq_true rfl) dX10_readLine_155 ⟨Nat.zero_le _, Nat.zero_le _⟩ (fun ve H locs hqve hP hD hS => ?_)
            have eve : ve = scn z (u) := hqve
            have hIve : PI z ve := by rw [eve]; exact PI_scn (hIu)
            refine lv_iconst (v := 1) hx hb dX10_readLine_158 (by decide) ?_
            exact m_reti hx hb hr hlocks hAe hK hP hD hS (by first | rfl | decide) dX10_readLine_159 (by rw [hre, rlE, bnd_1 (r := x3) (u := u) rfl c_135, if_pos c_145, eve])
          · refine lv_aload_n hx hb dX10_readLine_148 rfl (lv_at hl 0 rfl) ?_
            refine lv_iconst (v := 1) hx hb dX10_readLine_149 (by decide) ?_
            refine m_calli (As := [.int 1]) (rest := []) ⟨hx, hb, hml, hown, hts⟩ (ctX10_wrong l D y h a u 1) (cwV 1 hts gX10_readLine_X10_wrong rfl rfl rfl (by decide +kernel) ⟨Nat.le_of_ble_eq_true rfl, Nat.le_of_ble_eq_true rfl⟩) hK hP hD hS hA rfl hl.1 rfl (Nat.le_of_ble_eq_true rfl) dX10_readLine_150 ⟨Nat.zero_le _, Nat.zero_le _⟩ (fun r150 v150 H locs hw150 hP hD hS => ?_)
            exact m_reti hx hb hr hlocks hAe hK hP hD hS (by rw [hw150.1]; rfl) dX10_readLine_153 (by rw [hw150.1, hw150.2, hre, rlE, bnd_1 (r := x3) (u := u) rfl c_135, if_neg c_145]; rfl)
        · refine lv_iconst (v := 0) hx hb dX10_readLine_138 (by decide) ?_
          exact m_reti hx hb hr hlocks hAe hK hP hD hS (by first | rfl | decide) dX10_readLine_139 (by rw [hre, rlE, bnd_0 (r := x3) (u := u) rfl c_135])
      refine lv_iload_n hx hb dX10_readLine_27 rfl (lv_at hl 0 rfl) ?_
      refine lv_iconst (v := 4) hx hb dX10_readLine_28 (by decide) ?_
      refine lv_icmp_ne (tgt := 41) hx hb dX10_readLine_29 (by decide) (fun c_29 => ?_) (fun c_29 => ?_)
      · rw [ex2] at c_29
        refine lv_aload_n hx hb dX10_readLine_41 rfl (lv_at hl 2 rfl) ?_
        refine lv_iload_n hx hb dX10_readLine_42 rfl (lv_at hl 0 rfl) ?_
        refine ml_told hx hb hK hP (by rw [ex2j]; exact vp_in_nI (by omega) (by omega)) dX10_readLine_43 ?_
        refine lv_if_eq (tgt := 53) hx hb dX10_readLine_44 (by decide) (fun c_44 => ?_) (fun c_44 => ?_)
        · rw [hcw2] at c_44
          refine lv_aload_n hx hb dX10_readLine_53 rfl (lv_at hl 2 rfl) ?_
          refine lv_iload_n hx hb dX10_readLine_54 rfl (lv_at hl 0 rfl) ?_
          refine lv_iconst (v := 1) hx hb dX10_readLine_55 (by decide) ?_
          refine ms_told hx hb hK hP hD hS (by rw [ex2j]; exact vp_in_nI (by omega) (by omega)) dX10_readLine_56 (fun H locs hP hD hS => ?_)
          rw [hcw2, nar1] at hP hD
          refine lv_aload_n hx hb dX10_readLine_57 rfl (lv_at hl 1 rfl) ?_
          refine n_callv (As := []) (rest := []) ⟨hx, hb, hml, hown, hts⟩ (ctX10_scan l D y h a q qv (mrU v 13 jw 1) (sI ((mrU v 13 jw 1).1 6)) z (PI_row hI 13 jw 1).1 (PI_row hI 13 jw 1).2.1 (PI_row hI 13 jw 1).2.2.1 (PI_row hI 13 jw 1).2.2.2) (cwV 0 hts gX10_readLine_X10_scan rfl rfl rfl (by decide +kernel) ⟨Nat.le_of_ble_eq_true rfl, Nat.le_of_ble_eq_true rfl⟩) hE hR hK hP hD hS hA rfl hl.1 rfl (Nat.le_of_ble_eq_true rfl) dX10_readLine_58 ⟨Nat.zero_le _, Nat.zero_le _⟩ (fun vb H locs hqvb hP hD hS => ?_)
          have evb : vb = scn z (mrU v 13 jw 1) := hqvb
          have hIvb : PI z vb := by rw [evb]; exact PI_scn (PI_row hI 13 jw 1)
          refine lv_iload_n hx hb dX10_readLine_61 rfl (lv_at hl 0 rfl) ?_
          refine lv_iconst (v := 3) hx hb dX10_readLine_62 (by decide) ?_
          refine lv_icmp_ne (tgt := 128) hx hb dX10_readLine_63 (by decide) (fun c_63 => ?_) (fun c_63 => ?_)
          · rw [ex2] at c_63
            refine lv_aload_n hx hb dX10_readLine_128 rfl (lv_at hl 1 rfl) ?_
            refine lv_iload_n hx hb dX10_readLine_129 rfl (lv_at hl 0 rfl) ?_
            rw [ex2j]
            refine n_calli (As := [.int (nI jw)]) (rest := []) ⟨hx, hb, hml, hown, hts⟩ (ctX10_number l D y h a q qv vb jw z (by omega) hIvb) (cwV 1 hts gX10_readLine_X10_number rfl rfl rfl (by decide +kernel) ⟨Nat.le_of_ble_eq_true rfl, Nat.le_of_ble_eq_true rfl⟩) hE hR hK hP hD hS hA rfl hl.1 rfl (Nat.le_of_ble_eq_true rfl) dX10_readLine_130 ⟨Nat.zero_le _, Nat.zero_le _⟩ (fun r130 v130 H locs hq130 hP hD hS => ?_)
            refine lv_istore_n (lv' := [(3, .int r130), (2, .int x2), (0, .ref h), (1, .ref (a 13))]) hx hb dX10_readLine_133 rfl hl (by decide) rfl (fun ls hl => ?_)
            exact j_134 _ _ (PI_num hIvb hq130) (by rw [spReadLine, if_pos hok, if_neg c_29, hsw, if_pos c_44, if_neg c_63, ← evb, hq130]) _ _ hP hD hS _ (lv_sub hl [2, 0] rfl)
          · rw [ex2] at c_63
            refine lv_aload_n hx hb dX10_readLine_66 rfl (lv_at hl 1 rfl) ?_
            refine mg_sort hx hb hts hin hown hK hP (by decide +kernel) dX10_readLine_67 ?_
            refine lv_iconst (v := 1) hx hb dX10_readLine_70 (by decide) ?_
            refine lv_icmp_ne (tgt := 91) hx hb dX10_readLine_71 (by decide) (fun c_71 => ?_) (fun c_71 => ?_)
            · refine lv_aload_n hx hb dX10_readLine_91 rfl (lv_at hl 1 rfl) ?_
              refine lv_iconst (v := 1) hx hb dX10_readLine_92 (by decide) ?_
              refine m_calli (As := [.int 1]) (rest := []) ⟨hx, hb, hml, hown, hts⟩ (ctX10_wrong l D y h a vb 1) (cwV 1 hts gX10_readLine_X10_wrong rfl rfl rfl (by decide +kernel) ⟨Nat.le_of_ble_eq_true rfl, Nat.le_of_ble_eq_true rfl⟩) hK hP hD hS hA rfl hl.1 rfl (Nat.le_of_ble_eq_true rfl) dX10_readLine_93 ⟨Nat.zero_le _, Nat.zero_le _⟩ (fun r93 v93 H locs hw93 hP hD hS => ?_)
              exact m_reti hx hb hr hlocks hAe hK hP hD hS (by rw [hw93.1]; rfl) dX10_readLine_96 (by rw [hw93.1, hw93.2, spReadLine, if_pos hok, if_neg c_29, hsw, if_pos c_44, if_pos c_63, ← evb, rlT, if_neg (fun q9 => c_71 q9.1)]; rfl)
            · refine lv_aload_n hx hb dX10_readLine_74 rfl (lv_at hl 1 rfl) ?_
              refine mg_what hx hb hts hin hown hK hP (by decide +kernel) dX10_readLine_75 ?_
              refine lv_iconst (v := 5) hx hb dX10_readLine_78 (by decide) ?_
              refine lv_icmp_eq (tgt := 97) hx hb dX10_readLine_79 (by decide) (fun c_79 => ?_) (fun c_79 => ?_)
              · refine lv_aload_n hx hb dX10_readLine_97 rfl (lv_at hl 1 rfl) ?_
                refine mg_laws hx hb hts hin hown hK hP (by decide +kernel) dX10_readLine_98 ?_
                refine lv_sipush (v := 423) hx hb dX10_readLine_101 (by decide) ?_
                refine lv_aload_n hx hb dX10_readLine_104 rfl (lv_at hl 1 rfl) ?_
                refine mg_what hx hb hts hin hown hK hP (by decide +kernel) dX10_readLine_105 ?_
                refine lv_bipush (v := 6) hx hb dX10_readLine_108 (by decide) ?_
                refine lv_icmp_ne (tgt := 117) hx hb dX10_readLine_110 (by decide) (fun c_110 => ?_) (fun c_110 => ?_)
                · refine lv_iconst (v := 0) hx hb dX10_readLine_117 (by decide) ?_
                  refine lv_topi (fun z9 ez9 => ?_)
                  refine ms_laws hx hb hK hP hD hS (vp_in_nI (n := 423) (N := 448) (by decide) (by decide)) dX10_readLine_118 (fun H locs hP hD hS => ?_)
                  rw [show Int32.toNatClampNeg 423 = 423 from rfl] at hP hD
                  refine lv_aload_n hx hb dX10_readLine_119 rfl (lv_at hl 1 rfl) ?_
                  refine n_callv (As := []) (rest := []) ⟨hx, hb, hml, hown, hts⟩ (ctX10_scan l D y h a q qv (mrU vb 10 423 z9) (sI ((mrU vb 10 423 z9).1 6)) z (PI_row hIvb 10 423 z9).1 (PI_row hIvb 10 423 z9).2.1 (PI_row hIvb 10 423 z9).2.2.1 (PI_row hIvb 10 423 z9).2.2.2) (cwV 0 hts gX10_readLine_X10_scan rfl rfl rfl (by decide +kernel) ⟨Nat.le_of_ble_eq_true rfl, Nat.le_of_ble_eq_true rfl⟩) hE hR hK hP hD hS hA rfl hl.1 rfl (Nat.le_of_ble_eq_true rfl) dX10_readLine_120 ⟨Nat.zero_le _, Nat.zero_le _⟩ (fun vd H locs hqvd hP hD hS => ?_)
                  have evd : vd = scn z (mrU vb 10 423 z9) := hqvd
                  have hIvd : PI z vd := by rw [evd]; exact PI_scn (PI_row hIvb 10 423 z9)
                  refine lv_iconst (v := 1) hx hb dX10_readLine_123 (by decide) ?_
                  refine lv_istore_n (lv' := [(3, .int 1), (2, .int x2), (0, .ref h), (1, .ref (a 13))]) hx hb dX10_readLine_124 rfl hl (by decide) rfl (fun ls hl => ?_)
                  refine lv_goto (tgt := 134) hx hb dX10_readLine_125 (by decide) ?_
                  exact j_134 _ _ hIvd (by rw [spReadLine, if_pos hok, if_neg c_29, hsw, if_pos c_44, if_pos c_63, ← evb, rlT, if_pos ⟨c_71, Or.inl c_79⟩, evd, if_neg c_110, ez9]) _ _ hP hD hS _ (lv_sub hl [2, 0] rfl)
                · refine lv_iconst (v := 1) hx hb dX10_readLine_113 (by decide) ?_
                  refine lv_goto (tgt := 118) hx hb dX10_readLine_114 (by decide) ?_
                  refine lv_topi (fun z9 ez9 => ?_)
                  refine ms_laws hx hb hK hP hD hS (vp_in_nI (n := 423) (N := 448) (by decide) (by decide)) dX10_readLine_118 (fun H locs hP hD hS => ?_)
                  rw [show Int32.toNatClampNeg 423 = 423 from rfl] at hP hD
                  refine lv_aload_n hx hb dX10_readLine_119 rfl (lv_at hl 1 rfl) ?_
                  refine n_callv (As := []) (rest := []) ⟨hx, hb, hml, hown, hts⟩ (ctX10_scan l D y h a q qv (mrU vb 10 423 z9) (sI ((mrU vb 10 423 z9).1 6)) z (PI_row hIvb 10 423 z9).1 (PI_row hIvb 10 423 z9).2.1 (PI_row hIvb 10 423 z9).2.2.1 (PI_row hIvb 10 423 z9).2.2.2) (cwV 0 hts gX10_readLine_X10_scan rfl rfl rfl (by decide +kernel) ⟨Nat.le_of_ble_eq_true rfl, Nat.le_of_ble_eq_true rfl⟩) hE hR hK hP hD hS hA rfl hl.1 rfl (Nat.le_of_ble_eq_true rfl) dX10_readLine_120 ⟨Nat.zero_le _, Nat.zero_le _⟩ (fun vd H locs hqvd hP hD hS => ?_)
                  have evd : vd = scn z (mrU vb 10 423 z9) := hqvd
                  have hIvd : PI z vd := by rw [evd]; exact PI_scn (PI_row hIvb 10 423 z9)
                  refine lv_iconst (v := 1) hx hb dX10_readLine_123 (by decide) ?_
                  refine lv_istore_n (lv' := [(3, .int 1), (2, .int x2), (0, .ref h), (1, .ref (a 13))]) hx hb dX10_readLine_124 rfl hl (by decide) rfl (fun ls hl => ?_)
                  refine lv_goto (tgt := 134) hx hb dX10_readLine_125 (by decide) ?_
                  exact j_134 _ _ hIvd (by rw [spReadLine, if_pos hok, if_neg c_29, hsw, if_pos c_44, if_pos c_63, ← evb, rlT, if_pos ⟨c_71, Or.inl c_79⟩, evd, if_pos c_110, ez9]) _ _ hP hD hS _ (lv_sub hl [2, 0] rfl)
              · refine lv_aload_n hx hb dX10_readLine_82 rfl (lv_at hl 1 rfl) ?_
                refine mg_what hx hb hts hin hown hK hP (by decide +kernel) dX10_readLine_83 ?_
                refine lv_bipush (v := 6) hx hb dX10_readLine_86 (by decide) ?_
                refine lv_icmp_eq (tgt := 97) hx hb dX10_readLine_88 (by decide) (fun c_88 => ?_) (fun c_88 => ?_)
                · refine lv_aload_n hx hb dX10_readLine_97 rfl (lv_at hl 1 rfl) ?_
                  refine mg_laws hx hb hts hin hown hK hP (by decide +kernel) dX10_readLine_98 ?_
                  refine lv_sipush (v := 423) hx hb dX10_readLine_101 (by decide) ?_
                  refine lv_aload_n hx hb dX10_readLine_104 rfl (lv_at hl 1 rfl) ?_
                  refine mg_what hx hb hts hin hown hK hP (by decide +kernel) dX10_readLine_105 ?_
                  refine lv_bipush (v := 6) hx hb dX10_readLine_108 (by decide) ?_
                  refine lv_icmp_ne (tgt := 117) hx hb dX10_readLine_110 (by decide) (fun c_110 => ?_) (fun c_110 => ?_)
                  · refine lv_iconst (v := 0) hx hb dX10_readLine_117 (by decide) ?_
                    refine lv_topi (fun z9 ez9 => ?_)
                    refine ms_laws hx hb hK hP hD hS (vp_in_nI (n := 423) (N := 448) (by decide) (by decide)) dX10_readLine_118 (fun H locs hP hD hS => ?_)
                    rw [show Int32.toNatClampNeg 423 = 423 from rfl] at hP hD
                    refine lv_aload_n hx hb dX10_readLine_119 rfl (lv_at hl 1 rfl) ?_
                    refine n_callv (As := []) (rest := []) ⟨hx, hb, hml, hown, hts⟩ (ctX10_scan l D y h a q qv (mrU vb 10 423 z9) (sI ((mrU vb 10 423 z9).1 6)) z (PI_row hIvb 10 423 z9).1 (PI_row hIvb 10 423 z9).2.1 (PI_row hIvb 10 423 z9).2.2.1 (PI_row hIvb 10 423 z9).2.2.2) (cwV 0 hts gX10_readLine_X10_scan rfl rfl rfl (by decide +kernel) ⟨Nat.le_of_ble_eq_true rfl, Nat.le_of_ble_eq_true rfl⟩) hE hR hK hP hD hS hA rfl hl.1 rfl (Nat.le_of_ble_eq_true rfl) dX10_readLine_120 ⟨Nat.zero_le _, Nat.zero_le _⟩ (fun vd H locs hqvd hP hD hS => ?_)
                    have evd : vd = scn z (mrU vb 10 423 z9) := hqvd
                    have hIvd : PI z vd := by rw [evd]; exact PI_scn (PI_row hIvb 10 423 z9)
                    refine lv_iconst (v := 1) hx hb dX10_readLine_123 (by decide) ?_
                    refine lv_istore_n (lv' := [(3, .int 1), (2, .int x2), (0, .ref h), (1, .ref (a 13))]) hx hb dX10_readLine_124 rfl hl (by decide) rfl (fun ls hl => ?_)
                    refine lv_goto (tgt := 134) hx hb dX10_readLine_125 (by decide) ?_
                    exact j_134 _ _ hIvd (by rw [spReadLine, if_pos hok, if_neg c_29, hsw, if_pos c_44, if_pos c_63, ← evb, rlT, if_pos ⟨c_71, Or.inr c_88⟩, evd, if_neg c_110, ez9]) _ _ hP hD hS _ (lv_sub hl [2, 0] rfl)
                  · refine lv_iconst (v := 1) hx hb dX10_readLine_113 (by decide) ?_
                    refine lv_goto (tgt := 118) hx hb dX10_readLine_114 (by decide) ?_
                    refine lv_topi (fun z9 ez9 => ?_)
                    refine ms_laws hx hb hK hP hD hS (vp_in_nI (n := 423) (N := 448) (by decide) (by decide)) dX10_readLine_118 (fun H locs hP hD hS => ?_)
                    rw [show Int32.toNatClampNeg 423 = 423 from rfl] at hP hD
                    refine lv_aload_n hx hb dX10_readLine_119 rfl (lv_at hl 1 rfl) ?_
                    refine n_callv (As := []) (rest := []) ⟨hx, hb, hml, hown, hts⟩ (ctX10_scan l D y h a q qv (mrU vb 10 423 z9) (sI ((mrU vb 10 423 z9).1 6)) z (PI_row hIvb 10 423 z9).1 (PI_row hIvb 10 423 z9).2.1 (PI_row hIvb 10 423 z9).2.2.1 (PI_row hIvb 10 423 z9).2.2.2) (cwV 0 hts gX10_readLine_X10_scan rfl rfl rfl (by decide +kernel) ⟨Nat.le_of_ble_eq_true rfl, Nat.le_of_ble_eq_true rfl⟩) hE hR hK hP hD hS hA rfl hl.1 rfl (Nat.le_of_ble_eq_true rfl) dX10_readLine_120 ⟨Nat.zero_le _, Nat.zero_le _⟩ (fun vd H locs hqvd hP hD hS => ?_)
                    have evd : vd = scn z (mrU vb 10 423 z9) := hqvd
                    have hIvd : PI z vd := by rw [evd]; exact PI_scn (PI_row hIvb 10 423 z9)
                    refine lv_iconst (v := 1) hx hb dX10_readLine_123 (by decide) ?_
                    refine lv_istore_n (lv' := [(3, .int 1), (2, .int x2), (0, .ref h), (1, .ref (a 13))]) hx hb dX10_readLine_124 rfl hl (by decide) rfl (fun ls hl => ?_)
                    refine lv_goto (tgt := 134) hx hb dX10_readLine_125 (by decide) ?_
                    exact j_134 _ _ hIvd (by rw [spReadLine, if_pos hok, if_neg c_29, hsw, if_pos c_44, if_pos c_63, ← evb, rlT, if_pos ⟨c_71, Or.inr c_88⟩, evd, if_pos c_110, ez9]) _ _ hP hD hS _ (lv_sub hl [2, 0] rfl)
                · refine lv_aload_n hx hb dX10_readLine_91 rfl (lv_at hl 1 rfl) ?_
                  refine lv_iconst (v := 1) hx hb dX10_readLine_92 (by decide) ?_
                  refine m_calli (As := [.int 1]) (rest := []) ⟨hx, hb, hml, hown, hts⟩ (ctX10_wrong l D y h a vb 1) (cwV 1 hts gX10_readLine_X10_wrong rfl rfl rfl (by decide +kernel) ⟨Nat.le_of_ble_eq_true rfl, Nat.le_of_ble_eq_true rfl⟩) hK hP hD hS hA rfl hl.1 rfl (Nat.le_of_ble_eq_true rfl) dX10_readLine_93 ⟨Nat.zero_le _, Nat.zero_le _⟩ (fun r93 v93 H locs hw93 hP hD hS => ?_)
                  exact m_reti hx hb hr hlocks hAe hK hP hD hS (by rw [hw93.1]; rfl) dX10_readLine_96 (by rw [hw93.1, hw93.2, spReadLine, if_pos hok, if_neg c_29, hsw, if_pos c_44, if_pos c_63, ← evb, rlT, if_neg (fun q9 => q9.2.elim c_79 c_88)]; rfl)
        · rw [hcw2] at c_44
          refine lv_aload_n hx hb dX10_readLine_47 rfl (lv_at hl 1 rfl) ?_
          refine lv_iconst (v := 3) hx hb dX10_readLine_48 (by decide) ?_
          refine m_calli (As := [.int 3]) (rest := []) ⟨hx, hb, hml, hown, hts⟩ (ctX10_wrong l D y h a v 3) (cwV 1 hts gX10_readLine_X10_wrong rfl rfl rfl (by decide +kernel) ⟨Nat.le_of_ble_eq_true rfl, Nat.le_of_ble_eq_true rfl⟩) hK hP hD hS hA rfl hl.1 rfl (Nat.le_of_ble_eq_true rfl) dX10_readLine_49 ⟨Nat.zero_le _, Nat.zero_le _⟩ (fun r49 v49 H locs hw49 hP hD hS => ?_)
          exact m_reti hx hb hr hlocks hAe hK hP hD hS (by rw [hw49.1]; rfl) dX10_readLine_52 (by rw [hw49.1, hw49.2, spReadLine, if_pos hok, if_neg c_29, hsw, if_neg c_44]; rfl)
      · rw [ex2] at c_29
        refine lv_aload_n hx hb dX10_readLine_32 rfl (lv_at hl 1 rfl) ?_
        refine lv_aload_n hx hb dX10_readLine_33 rfl (lv_at hl 2 rfl) ?_
        refine n_calli (As := [.ref (a 13)]) (rest := []) ⟨hx, hb, hml, hown, hts⟩ (ctX10_readSuit l D y h a q qv v z hI) (cwV 1 hts gX10_readLine_X10_readSuit rfl rfl rfl (by decide +kernel) ⟨Nat.le_of_ble_eq_true rfl, Nat.le_of_ble_eq_true rfl⟩) hE hR hK hP hD hS hA rfl hl.1 rfl (Nat.le_of_ble_eq_true rfl) dX10_readLine_34 ⟨Nat.zero_le _, Nat.zero_le _⟩ (fun r34 v34 H locs hq34 hP hD hS => ?_)
        have hI34 : PI z v34 := by rw [show v34 = (spReadSuit z v).2 from congrArg Prod.snd hq34]; exact PI_rs hI
        refine lv_istore_n (lv' := [(3, .int r34), (2, .int x2), (0, .ref h), (1, .ref (a 13))]) hx hb dX10_readLine_37 rfl hl (by decide) rfl (fun ls hl => ?_)
        refine lv_goto (tgt := 134) hx hb dX10_readLine_38 (by decide) ?_
        exact j_134 _ _ hI34 (by rw [spReadLine, if_pos hok, if_pos c_29, hq34]) _ _ hP hD hS _ (lv_sub hl [2, 0] rfl)
    · refine lv_aload_n hx hb dX10_readLine_16 rfl (lv_at hl 0 rfl) ?_
      refine lv_iconst (v := 1) hx hb dX10_readLine_17 (by decide) ?_
      refine m_calli (As := [.int 1]) (rest := []) ⟨hx, hb, hml, hown, hts⟩ (ctX10_wrong l D y h a v 1) (cwV 1 hts gX10_readLine_X10_wrong rfl rfl rfl (by decide +kernel) ⟨Nat.le_of_ble_eq_true rfl, Nat.le_of_ble_eq_true rfl⟩) hK hP hD hS hA rfl hl.1 rfl (Nat.le_of_ble_eq_true rfl) dX10_readLine_18 ⟨Nat.zero_le _, Nat.zero_le _⟩ (fun r18 v18 H locs hw18 hP hD hS => ?_)
      exact m_reti hx hb hr hlocks hAe hK hP hD hS (by rw [hw18.1]; rfl) dX10_readLine_21 (by rw [hw18.1, hw18.2, spReadLine, if_neg (fun q9 => c_13 q9.2)]; rfl)
