/-! the reference: a suit's line -/
def bnd (x : Int32 × mS) (f : mS → Int32 × mS) : Int32 × mS := if x.1 = 0 then (0, x.2) else f x.2
theorem bnd_0 {x : Int32 × mS} {f : mS → Int32 × mS} {r : Int32} {u : mS} (h : (r, u) = x) (hr : r = 0) : bnd x f = (0, u) := by rw [← h, bnd, if_pos hr]
theorem bnd_1 {x : Int32 × mS} {f : mS → Int32 × mS} {r : Int32} {u : mS} (h : (r, u) = x) (hr : ¬ r = 0) : bnd x f = f u := by rw [← h, bnd, if_neg hr]
theorem PI_row {z : Nat} {v : mS} (h : PI z v) (s i : Nat) (x : Int32) : PI z (mrU v s i x) := h
theorem PI_wrg {z : Nat} {v : mS} (h : PI z v) (k : Int32) : PI z (wrg v k) := h
theorem PI_word {z : Nat} {v u : mS} {w r : Int32} (h : PI z v) (hq : (r, u) = spWord z v w) : PI z u := by
  rw [show u = (spWord z v w).2 from congrArg Prod.snd hq, spWord]
  split
  · exact PI_scn h
  · exact PI_wrg h 1
theorem PI_num {z : Nat} {v u : mS} {w : Nat} {r : Int32} (h : PI z v) (hq : (r, u) = spNumber z v w) : PI z u := by
  rw [show u = (spNumber z v w).2 from congrArg Prod.snd hq, spNumber]
  split
  · exact PI_scn (PI_row h _ _ _)
  · exact PI_wrg h 1
def rsC (z k : Nat) (u : mS) : Int32 × mS := bnd (spWord z u 9) (fun b => bnd (spNumber z b (22 + k)) (fun c => (1, c)))
def rsO (z k : Nat) (u : mS) : Int32 × mS := bnd (spNumber z (scn z u) (10 + k)) (fun b => bnd (spWord z b 7) (fun c => bnd (spNumber z c (16 + k)) (rsC z k)))
def rsD (z k : Nat) (u : mS) : Int32 × mS := if u.1 3 = 1 ∧ u.1 4 = 8 then rsO z k u else rsC z k u
def rsB (z k : Nat) (u : mS) : Int32 × mS := bnd (spWord z u 7) (fun b => bnd (spNumber z b (4 + k)) (fun c => rsD z k (mrU c 10 (436 + k) (c.2.1 10 (424 + k)))))
def rsA (z : Nat) (u : mS) : Int32 × mS := if u.1 3 = 2 then (if u.1 7 ≤ 5 then (if u.2.1 13 (4 + sI (u.1 7)) = 0 then rsB z (sI (u.1 7)) (scn z (mrU u 13 (4 + sI (u.1 7)) 1)) else (0, wrg u 3)) else (0, wrg u 2)) else (0, wrg u 1)
def spReadSuit (z : Nat) (v : mS) : Int32 × mS := rsA z (scn z v)
set_option maxHeartbeats 4000000 in
set_option maxRecDepth 100000 in
/-- readSuit(told) -/
theorem ctX10_readSuit (l : Launch) (D : va_G) (y : Nat → ClassId) (h : Nat) (a : Nat → Nat) (q qv : Nat) (v : mS) (z : Nat) (hI : PI z v) : nMi l yX10_readSuit wsX10_readSuit ({ frames := 8, cells := 0, slots := 0, locals := 177 }) D y h a q qv v [.ref h, .ref (a 13)] (fun r v' => (r, v') = spReadSuit z v) := by
  refine nMi_of (cc := cX10_readSuit) (maxL := 3) (ret := (some .boolean)) rfl rfl (Nat.le_of_ble_eq_true rfl) ?_
  intro p e s m below meth c A ls hat hE hR hAe hl
  obtain ⟨hx, hb, hr, hml, hts, hown, hlocks, hK, hP, hD, hA⟩ := hat
  have hin : ∀ w ∈ wsX100, w ∈ wsX10_readSuit := fun _ h9 => List.mem_cons_of_mem _ (List.mem_append_right _ h9)
  have hl : lv_has ls 3 [(0, .ref h), (1, .ref (a 13))] := hl
  have hS : va_S A s.heap s.heap [] := va_S.rf
  refine lv_aload_n hx hb dX10_readSuit_0 rfl (lv_at hl 0 rfl) ?_
  refine n_callv (As := []) (rest := []) ⟨hx, hb, hml, hown, hts⟩ (ctX10_scan l D y h a q qv (v) (sI ((v).1 6)) z (hI).1 (hI).2.1 (hI).2.2.1 (hI).2.2.2) (cwV 0 hts gX10_readSuit_X10_scan rfl rfl rfl (by decide +kernel) ⟨Nat.le_of_ble_eq_true rfl, Nat.le_of_ble_eq_true rfl⟩) hE hR hK hP hD hS hA rfl hl.1 rfl (Nat.le_of_ble_eq_true rfl) dX10_readSuit_1 ⟨Nat.zero_le _, Nat.zero_le _⟩ (fun va H locs hqva hP hD hS => ?_)
  have eva : va = scn z (v) := hqva
  have hIva : PI z va := by rw [eva]; exact PI_scn (hI)
  refine lv_aload_n hx hb dX10_readSuit_4 rfl (lv_at hl 0 rfl) ?_
  refine mg_sort hx hb hts hin hown hK hP (by decide +kernel) dX10_readSuit_5 ?_
  refine lv_iconst (v := 2) hx hb dX10_readSuit_8 (by decide) ?_
  refine lv_icmp_eq (tgt := 18) hx hb dX10_readSuit_9 (by decide) (fun c_9 => ?_) (fun c_9 => ?_)
  · refine lv_aload_n hx hb dX10_readSuit_18 rfl (lv_at hl 0 rfl) ?_
    refine mg_worth hx hb hts hin hown hK hP (by decide +kernel) dX10_readSuit_19 ?_
    refine lv_iconst (v := 5) hx hb dX10_readSuit_22 (by decide) ?_
    refine lv_icmp_le (tgt := 32) hx hb dX10_readSuit_23 (by decide) (fun c_23 => ?_) (fun c_23 => ?_)
    · obtain ⟨k, hkw, ek⟩ := scn_worth hI (by rw [← eva]; exact c_9)
      rw [← eva] at ek
      have hk6 : k ≤ 5 := by rw [ek] at c_23; exact (nI_leI (b := 5) (by omega) (by omega)).mp c_23
      have hsk : sI (va.1 7) = k := by rw [ek]; exact nI_clamp (by omega)
      refine lv_aload_n hx hb dX10_readSuit_32 rfl (lv_at hl 0 rfl) ?_
      refine mg_worth hx hb hts hin hown hK hP (by decide +kernel) dX10_readSuit_33 ?_
      refine lv_topi (fun x2 ex2 => ?_)
      refine lv_istore_n (lv' := [(2, .int x2), (0, .ref h), (1, .ref (a 13))]) hx hb dX10_readSuit_36 rfl hl (by decide) rfl (fun ls hl => ?_)
      have ex2k : x2 = nI k := by rw [ex2, ek]
      have h4k : (4 : Int32) + x2 = nI (4 + k) := by rw [ex2k, show (4 : Int32) = nI 4 from rfl, nI_add]
      have hc4 : (nI (4 + k)).toNatClampNeg = 4 + k := nI_clamp (by omega)
      refine lv_aload_n hx hb dX10_readSuit_37 rfl (lv_at hl 2 rfl) ?_
      refine lv_iconst (v := 4) hx hb dX10_readSuit_38 (by decide) ?_
      refine lv_iload_n hx hb dX10_readSuit_39 rfl (lv_at hl 0 rfl) ?_
      refine lv_iadd hx hb dX10_readSuit_40 ?_
      rw [h4k]
      refine ml_told hx hb hK hP (vp_in_nI (by omega) (by omega)) dX10_readSuit_41 ?_
      refine lv_if_eq (tgt := 51) hx hb dX10_readSuit_42 (by decide) (fun c_42 => ?_) (fun c_42 => ?_)
      · rw [hc4] at c_42
        refine lv_aload_n hx hb dX10_readSuit_51 rfl (lv_at hl 2 rfl) ?_
        refine lv_iconst (v := 4) hx hb dX10_readSuit_52 (by decide) ?_
        refine lv_iload_n hx hb dX10_readSuit_53 rfl (lv_at hl 0 rfl) ?_
        refine lv_iadd hx hb dX10_readSuit_54 ?_
        refine lv_iconst (v := 1) hx hb dX10_readSuit_55 (by decide) ?_
        rw [h4k]
        refine ms_told hx hb hK hP hD hS (vp_in_nI (by omega) (by omega)) dX10_readSuit_56 (fun H locs hP hD hS => ?_)
        rw [hc4, nar1] at hP hD
        refine lv_aload_n hx hb dX10_readSuit_57 rfl (lv_at hl 1 rfl) ?_
        refine n_callv (As := []) (rest := []) ⟨hx, hb, hml, hown, hts⟩ (ctX10_scan l D y h a q qv (mrU va 13 (4 + k) 1) (sI ((mrU va 13 (4 + k) 1).1 6)) z (PI_row hIva 13 (4 + k) 1).1 (PI_row hIva 13 (4 + k) 1).2.1 (PI_row hIva 13 (4 + k) 1).2.2.1 (PI_row hIva 13 (4 + k) 1).2.2.2) (cwV 0 hts gX10_readSuit_X10_scan rfl rfl rfl (by decide +kernel) ⟨Nat.le_of_ble_eq_true rfl, Nat.le_of_ble_eq_true rfl⟩) hE hR hK hP hD hS hA rfl hl.1 rfl (Nat.le_of_ble_eq_true rfl) dX10_readSuit_58 ⟨Nat.zero_le _, Nat.zero_le _⟩ (fun vb H locs hqvb hP hD hS => ?_)
        have evb : vb = scn z (mrU va 13 (4 + k) 1) := hqvb
        have hIvb : PI z vb := by rw [evb]; exact PI_scn (PI_row hIva 13 (4 + k) 1)
        refine lv_aload_n hx hb dX10_readSuit_61 rfl (lv_at hl 1 rfl) ?_
        refine lv_bipush (v := 7) hx hb dX10_readSuit_62 (by decide) ?_
        refine n_calli (As := [.int 7]) (rest := []) ⟨hx, hb, hml, hown, hts⟩ (ctX10_word l D y h a q qv vb 7 z hIvb) (cwV 1 hts gX10_readSuit_X10_word rfl rfl rfl (by decide +kernel) ⟨Nat.le_of_ble_eq_true rfl, Nat.le_of_ble_eq_true rfl⟩) hE hR hK hP hD hS hA rfl hl.1 rfl (Nat.le_of_ble_eq_true rfl) dX10_readSuit_64 ⟨Nat.zero_le _, Nat.zero_le _⟩ (fun r64 v64 H locs hq64 hP hD hS => ?_)
        have hI64 : PI z v64 := PI_word hIvb hq64
        refine lv_if_eq (tgt := 80) hx hb dX10_readSuit_67 (by decide) (fun c_67 => ?_) (fun c_67 => ?_)
        · refine lv_iconst (v := 0) hx hb dX10_readSuit_80 (by decide) ?_
          exact m_reti hx hb hr hlocks hAe hK hP hD hS (by first | rfl | decide) dX10_readSuit_81 (by rw [spReadSuit, ← eva, rsA, if_pos c_9, if_pos c_23, hsk, if_pos c_42, ← evb, rsB, bnd_0 hq64 c_67])
        · refine lv_aload_n hx hb dX10_readSuit_70 rfl (lv_at hl 1 rfl) ?_
          refine lv_iconst (v := 4) hx hb dX10_readSuit_71 (by decide) ?_
          refine lv_iload_n hx hb dX10_readSuit_72 rfl (lv_at hl 0 rfl) ?_
          refine lv_iadd hx hb dX10_readSuit_73 ?_
          rw [show (4 : Int32) + x2 = nI (4 + k) by rw [ex2k, show (4 : Int32) = nI 4 from rfl, nI_add]]
          refine n_calli (As := [.int (nI (4 + k))]) (rest := []) ⟨hx, hb, hml, hown, hts⟩ (ctX10_number l D y h a q qv v64 (4 + k) z (by omega) hI64) (cwV 1 hts gX10_readSuit_X10_number rfl rfl rfl (by decide +kernel) ⟨Nat.le_of_ble_eq_true rfl, Nat.le_of_ble_eq_true rfl⟩) hE hR hK hP hD hS hA rfl hl.1 rfl (Nat.le_of_ble_eq_true rfl) dX10_readSuit_74 ⟨Nat.zero_le _, Nat.zero_le _⟩ (fun r74 v74 H locs hq74 hP hD hS => ?_)
          have hI74 : PI z v74 := PI_num hI64 hq74
          refine lv_if_ne (tgt := 82) hx hb dX10_readSuit_77 (by decide) (fun c_77 => ?_) (fun c_77 => ?_)
          · refine lv_aload_n hx hb dX10_readSuit_82 rfl (lv_at hl 1 rfl) ?_
            refine mg_laws hx hb hts hin hown hK hP (by decide +kernel) dX10_readSuit_83 ?_
            refine lv_sipush (v := 436) hx hb dX10_readSuit_86 (by decide) ?_
            refine lv_iload_n hx hb dX10_readSuit_89 rfl (lv_at hl 0 rfl) ?_
            refine lv_iadd hx hb dX10_readSuit_90 ?_
            refine lv_aload_n hx hb dX10_readSuit_91 rfl (lv_at hl 1 rfl) ?_
            refine mg_laws hx hb hts hin hown hK hP (by decide +kernel) dX10_readSuit_92 ?_
            refine lv_sipush (v := 424) hx hb dX10_readSuit_95 (by decide) ?_
            refine lv_iload_n hx hb dX10_readSuit_98 rfl (lv_at hl 0 rfl) ?_
            refine lv_iadd hx hb dX10_readSuit_99 ?_
            rw [show (424 : Int32) + x2 = nI (424 + k) by rw [ex2k, show (424 : Int32) = nI 424 from rfl, nI_add]]
            refine ml_laws hx hb hK hP (vp_in_nI (by omega) (by omega)) dX10_readSuit_100 ?_
            rw [show (436 : Int32) + x2 = nI (436 + k) by rw [ex2k, show (436 : Int32) = nI 436 from rfl, nI_add]]
            refine ms_laws hx hb hK hP hD hS (vp_in_nI (by omega) (by omega)) dX10_readSuit_101 (fun H locs hP hD hS => ?_)
            rw [nI_clamp (by omega), nI_clamp (by omega)] at hP hD
            have hres : spReadSuit z v = rsD z k (mrU v74 10 (436 + k) (v74.2.1 10 (424 + k))) := by rw [spReadSuit, ← eva, rsA, if_pos c_9, if_pos c_23, hsk, if_pos c_42, ← evb, rsB, bnd_1 hq64 c_67, bnd_1 hq74 c_77]
            have j_156 : ∀ (u : mS), (PI z u) → (spReadSuit z v = rsC z k u) → ∀ (H : Heap) (locs : List Loc), va_P D vwCl (mW h a y u) H → va_D A (mW h a y u) → va_S A s.heap H locs → ∀ (ls : Array Slot), lv_has ls 3 [(0, .ref h), (2, .int x2)] → W p l e (headSpec wsX10_readSuit ({ frames := 8, cells := 0, slots := 0, locals := 177 })).room s m ([.ref h, .ref (a 13)] : List Value).toArray below meth c H locs 0 0 (MQ below (va_Qi (fun r v' => (r, v') = spReadSuit z v) (mEnd D y h a s.heap.size) A) ([.ref h, .ref (a 13)] : List Value).toArray s 0 0 A) (F0 m 156 ls []) := by
              intro u hIu hre2 H locs hP hD hS ls hl
              refine lv_aload_n hx hb dX10_readSuit_156 rfl (lv_at hl 0 rfl) ?_
              refine lv_bipush (v := 9) hx hb dX10_readSuit_157 (by decide) ?_
              refine n_calli (As := [.int 9]) (rest := []) ⟨hx, hb, hml, hown, hts⟩ (ctX10_word l D y h a q qv u 9 z hIu) (cwV 1 hts gX10_readSuit_X10_word rfl rfl rfl (by decide +kernel) ⟨Nat.le_of_ble_eq_true rfl, Nat.le_of_ble_eq_true rfl⟩) hE hR hK hP hD hS hA rfl hl.1 rfl (Nat.le_of_ble_eq_true rfl) dX10_readSuit_159 ⟨Nat.zero_le _, Nat.zero_le _⟩ (fun r159 v159 H locs hq159 hP hD hS => ?_)
              have hI159 : PI z v159 := PI_word hIu hq159
              refine lv_if_eq (tgt := 180) hx hb dX10_readSuit_162 (by decide) (fun c_162 => ?_) (fun c_162 => ?_)
              · refine lv_iconst (v := 0) hx hb dX10_readSuit_180 (by decide) ?_
                exact m_reti hx hb hr hlocks hAe hK hP hD hS (by first | rfl | decide) dX10_readSuit_181 (by rw [hre2, rsC, bnd_0 hq159 c_162])
              · refine lv_aload_n hx hb dX10_readSuit_165 rfl (lv_at hl 0 rfl) ?_
                refine lv_bipush (v := 22) hx hb dX10_readSuit_166 (by decide) ?_
                refine lv_iload_n hx hb dX10_readSuit_168 rfl (lv_at hl 1 rfl) ?_
                refine lv_iadd hx hb dX10_readSuit_169 ?_
                rw [show (22 : Int32) + x2 = nI (22 + k) by rw [ex2k, show (22 : Int32) = nI 22 from rfl, nI_add]]
                refine n_calli (As := [.int (nI (22 + k))]) (rest := []) ⟨hx, hb, hml, hown, hts⟩ (ctX10_number l D y h a q qv v159 (22 + k) z (by omega) hI159) (cwV 1 hts gX10_readSuit_X10_number rfl rfl rfl (by decide +kernel) ⟨Nat.le_of_ble_eq_true rfl, Nat.le_of_ble_eq_true rfl⟩) hE hR hK hP hD hS hA rfl hl.1 rfl (Nat.le_of_ble_eq_true rfl) dX10_readSuit_170 ⟨Nat.zero_le _, Nat.zero_le _⟩ (fun r170 v170 H locs hq170 hP hD hS => ?_)
                have hI170 : PI z v170 := PI_num hI159 hq170
                refine lv_if_eq (tgt := 180) hx hb dX10_readSuit_173 (by decide) (fun c_173 => ?_) (fun c_173 => ?_)
                · refine lv_iconst (v := 0) hx hb dX10_readSuit_180 (by decide) ?_
                  exact m_reti hx hb hr hlocks hAe hK hP hD hS (by first | rfl | decide) dX10_readSuit_181 (by rw [hre2, rsC, bnd_1 hq159 c_162, bnd_0 hq170 c_173])
                · refine lv_iconst (v := 1) hx hb dX10_readSuit_176 (by decide) ?_
                  refine lv_goto (tgt := 181) hx hb dX10_readSuit_177 (by decide) ?_
                  exact m_reti hx hb hr hlocks hAe hK hP hD hS (by first | rfl | decide) dX10_readSuit_181 (by rw [hre2, rsC, bnd_1 hq159 c_162, bnd_1 hq170 c_173])
            refine lv_aload_n hx hb dX10_readSuit_102 rfl (lv_at hl 1 rfl) ?_
            refine mg_sort hx hb hts hin hown hK hP (by decide +kernel) dX10_readSuit_103 ?_
            refine lv_iconst (v := 1) hx hb dX10_readSuit_106 (by decide) ?_
            refine lv_icmp_ne (tgt := 156) hx hb dX10_readSuit_107 (by decide) (fun c_107 => ?_) (fun c_107 => ?_)
            · exact j_156 _ (PI_row hI74 10 (436 + k) (v74.2.1 10 (424 + k))) (by rw [hres, rsD, if_neg (fun q9 => c_107 q9.1)]) _ _ hP hD hS _ (lv_sub hl [1, 0] rfl)
            · refine lv_aload_n hx hb dX10_readSuit_110 rfl (lv_at hl 1 rfl) ?_
              refine mg_what hx hb hts hin hown hK hP (by decide +kernel) dX10_readSuit_111 ?_
              refine lv_bipush (v := 8) hx hb dX10_readSuit_114 (by decide) ?_
              refine lv_icmp_ne (tgt := 156) hx hb dX10_readSuit_116 (by decide) (fun c_116 => ?_) (fun c_116 => ?_)
              · exact j_156 _ (PI_row hI74 10 (436 + k) (v74.2.1 10 (424 + k))) (by rw [hres, rsD, if_neg (fun q9 => c_116 q9.2)]) _ _ hP hD hS _ (lv_sub hl [1, 0] rfl)
              · refine lv_aload_n hx hb dX10_readSuit_119 rfl (lv_at hl 1 rfl) ?_
                refine n_callv (As := []) (rest := []) ⟨hx, hb, hml, hown, hts⟩ (ctX10_scan l D y h a q qv ((mrU v74 10 (436 + k) (v74.2.1 10 (424 + k)))) (sI (((mrU v74 10 (436 + k) (v74.2.1 10 (424 + k)))).1 6)) z (PI_row hI74 10 (436 + k) (v74.2.1 10 (424 + k))).1 (PI_row hI74 10 (436 + k) (v74.2.1 10 (424 + k))).2.1 (PI_row hI74 10 (436 + k) (v74.2.1 10 (424 + k))).2.2.1 (PI_row hI74 10 (436 + k) (v74.2.1 10 (424 + k))).2.2.2) (cwV 0 hts gX10_readSuit_X10_scan rfl rfl rfl (by decide +kernel) ⟨Nat.le_of_ble_eq_true rfl, Nat.le_of_ble_eq_true rfl⟩) hE hR hK hP hD hS hA rfl hl.1 rfl (Nat.le_of_ble_eq_true rfl) dX10_readSuit_120 ⟨Nat.zero_le _, Nat.zero_le _⟩ (fun vc H locs hqvc hP hD hS => ?_)
                have evc : vc = scn z ((mrU v74 10 (436 + k) (v74.2.1 10 (424 + k)))) := hqvc
                have hIvc : PI z vc := by rw [evc]; exact PI_scn (PI_row hI74 10 (436 + k) (v74.2.1 10 (424 + k)))
                refine lv_aload_n hx hb dX10_readSuit_123 rfl (lv_at hl 1 rfl) ?_
                refine lv_bipush (v := 10) hx hb dX10_readSuit_124 (by decide) ?_
                refine lv_iload_n hx hb dX10_readSuit_126 rfl (lv_at hl 0 rfl) ?_
                refine lv_iadd hx hb dX10_readSuit_127 ?_
                rw [show (10 : Int32) + x2 = nI (10 + k) by rw [ex2k, show (10 : Int32) = nI 10 from rfl, nI_add]]
                refine n_calli (As := [.int (nI (10 + k))]) (rest := []) ⟨hx, hb, hml, hown, hts⟩ (ctX10_number l D y h a q qv vc (10 + k) z (by omega) hIvc) (cwV 1 hts gX10_readSuit_X10_number rfl rfl rfl (by decide +kernel) ⟨Nat.le_of_ble_eq_true rfl, Nat.le_of_ble_eq_true rfl⟩) hE hR hK hP hD hS hA rfl hl.1 rfl (Nat.le_of_ble_eq_true rfl) dX10_readSuit_128 ⟨Nat.zero_le _, Nat.zero_le _⟩ (fun r128 v128 H locs hq128 hP hD hS => ?_)
                have hI128 : PI z v128 := PI_num hIvc hq128
                refine lv_if_eq (tgt := 154) hx hb dX10_readSuit_131 (by decide) (fun c_131 => ?_) (fun c_131 => ?_)
                · refine lv_iconst (v := 0) hx hb dX10_readSuit_154 (by decide) ?_
                  exact m_reti hx hb hr hlocks hAe hK hP hD hS (by first | rfl | decide) dX10_readSuit_155 (by rw [hres, rsD, if_pos ⟨c_107, c_116⟩, rsO, ← evc, bnd_0 hq128 c_131])
                · refine lv_aload_n hx hb dX10_readSuit_134 rfl (lv_at hl 1 rfl) ?_
                  refine lv_bipush (v := 7) hx hb dX10_readSuit_135 (by decide) ?_
                  refine n_calli (As := [.int 7]) (rest := []) ⟨hx, hb, hml, hown, hts⟩ (ctX10_word l D y h a q qv v128 7 z hI128) (cwV 1 hts gX10_readSuit_X10_word rfl rfl rfl (by decide +kernel) ⟨Nat.le_of_ble_eq_true rfl, Nat.le_of_ble_eq_true rfl⟩) hE hR hK hP hD hS hA rfl hl.1 rfl (Nat.le_of_ble_eq_true rfl) dX10_readSuit_137 ⟨Nat.zero_le _, Nat.zero_le _⟩ (fun r137 v137 H locs hq137 hP hD hS => ?_)
                  have hI137 : PI z v137 := PI_word hI128 hq137
                  refine lv_if_eq (tgt := 154) hx hb dX10_readSuit_140 (by decide) (fun c_140 => ?_) (fun c_140 => ?_)
                  · refine lv_iconst (v := 0) hx hb dX10_readSuit_154 (by decide) ?_
                    exact m_reti hx hb hr hlocks hAe hK hP hD hS (by first | rfl | decide) dX10_readSuit_155 (by rw [hres, rsD, if_pos ⟨c_107, c_116⟩, rsO, ← evc, bnd_1 hq128 c_131, bnd_0 hq137 c_140])
                  · refine lv_aload_n hx hb dX10_readSuit_143 rfl (lv_at hl 1 rfl) ?_
                    refine lv_bipush (v := 16) hx hb dX10_readSuit_144 (by decide) ?_
                    refine lv_iload_n hx hb dX10_readSuit_146 rfl (lv_at hl 0 rfl) ?_
                    refine lv_iadd hx hb dX10_readSuit_147 ?_
                    rw [show (16 : Int32) + x2 = nI (16 + k) by rw [ex2k, show (16 : Int32) = nI 16 from rfl, nI_add]]
                    refine n_calli (As := [.int (nI (16 + k))]) (rest := []) ⟨hx, hb, hml, hown, hts⟩ (ctX10_number l D y h a q qv v137 (16 + k) z (by omega) hI137) (cwV 1 hts gX10_readSuit_X10_number rfl rfl rfl (by decide +kernel) ⟨Nat.le_of_ble_eq_true rfl, Nat.le_of_ble_eq_true rfl⟩) hE hR hK hP hD hS hA rfl hl.1 rfl (Nat.le_of_ble_eq_true rfl) dX10_readSuit_148 ⟨Nat.zero_le _, Nat.zero_le _⟩ (fun r148 v148 H locs hq148 hP hD hS => ?_)
                    have hI148 : PI z v148 := PI_num hI137 hq148
                    refine lv_if_ne (tgt := 156) hx hb dX10_readSuit_151 (by decide) (fun c_151 => ?_) (fun c_151 => ?_)
                    · exact j_156 _ hI148 (by rw [hres, rsD, if_pos ⟨c_107, c_116⟩, rsO, ← evc, bnd_1 hq128 c_131, bnd_1 hq137 c_140, bnd_1 hq148 c_151]) _ _ hP hD hS _ (lv_sub hl [1, 0] rfl)
                    · refine lv_iconst (v := 0) hx hb dX10_readSuit_154 (by decide) ?_
                      exact m_reti hx hb hr hlocks hAe hK hP hD hS (by first | rfl | decide) dX10_readSuit_155 (by rw [hres, rsD, if_pos ⟨c_107, c_116⟩, rsO, ← evc, bnd_1 hq128 c_131, bnd_1 hq137 c_140, bnd_0 hq148 c_151])
          · refine lv_iconst (v := 0) hx hb dX10_readSuit_80 (by decide) ?_
            exact m_reti hx hb hr hlocks hAe hK hP hD hS (by first | rfl | decide) dX10_readSuit_81 (by rw [spReadSuit, ← eva, rsA, if_pos c_9, if_pos c_23, hsk, if_pos c_42, ← evb, rsB, bnd_1 hq64 c_67, bnd_0 hq74 c_77])
      · rw [hc4] at c_42
        refine lv_aload_n hx hb dX10_readSuit_45 rfl (lv_at hl 1 rfl) ?_
        refine lv_iconst (v := 3) hx hb dX10_readSuit_46 (by decide) ?_
        refine m_calli (As := [.int 3]) (rest := []) ⟨hx, hb, hml, hown, hts⟩ (ctX10_wrong l D y h a va 3) (cwV 1 hts gX10_readSuit_X10_wrong rfl rfl rfl (by decide +kernel) ⟨Nat.le_of_ble_eq_true rfl, Nat.le_of_ble_eq_true rfl⟩) hK hP hD hS hA rfl hl.1 rfl (Nat.le_of_ble_eq_true rfl) dX10_readSuit_47 ⟨Nat.zero_le _, Nat.zero_le _⟩ (fun r47 v47 H locs hw47 hP hD hS => ?_)
        exact m_reti hx hb hr hlocks hAe hK hP hD hS (by rw [hw47.1]; rfl) dX10_readSuit_50 (by rw [hw47.1, hw47.2, spReadSuit, ← eva, rsA, if_pos c_9, if_pos c_23, hsk, if_neg c_42]; rfl)
    · refine lv_aload_n hx hb dX10_readSuit_26 rfl (lv_at hl 0 rfl) ?_
      refine lv_iconst (v := 2) hx hb dX10_readSuit_27 (by decide) ?_
      refine m_calli (As := [.int 2]) (rest := []) ⟨hx, hb, hml, hown, hts⟩ (ctX10_wrong l D y h a va 2) (cwV 1 hts gX10_readSuit_X10_wrong rfl rfl rfl (by decide +kernel) ⟨Nat.le_of_ble_eq_true rfl, Nat.le_of_ble_eq_true rfl⟩) hK hP hD hS hA rfl hl.1 rfl (Nat.le_of_ble_eq_true rfl) dX10_readSuit_28 ⟨Nat.zero_le _, Nat.zero_le _⟩ (fun r28 v28 H locs hw28 hP hD hS => ?_)
      exact m_reti hx hb hr hlocks hAe hK hP hD hS (by rw [hw28.1]; rfl) dX10_readSuit_31 (by rw [hw28.1, hw28.2, spReadSuit, ← eva, rsA, if_pos c_9, if_neg c_23]; rfl)
  · refine lv_aload_n hx hb dX10_readSuit_12 rfl (lv_at hl 0 rfl) ?_
    refine lv_iconst (v := 1) hx hb dX10_readSuit_13 (by decide) ?_
    refine m_calli (As := [.int 1]) (rest := []) ⟨hx, hb, hml, hown, hts⟩ (ctX10_wrong l D y h a va 1) (cwV 1 hts gX10_readSuit_X10_wrong rfl rfl rfl (by decide +kernel) ⟨Nat.le_of_ble_eq_true rfl, Nat.le_of_ble_eq_true rfl⟩) hK hP hD hS hA rfl hl.1 rfl (Nat.le_of_ble_eq_true rfl) dX10_readSuit_14 ⟨Nat.zero_le _, Nat.zero_le _⟩ (fun r14 v14 H locs hw14 hP hD hS => ?_)
    exact m_reti hx hb hr hlocks hAe hK hP hD hS (by rw [hw14.1]; rfl) dX10_readSuit_17 (by rw [hw14.1, hw14.2, spReadSuit, ← eva, rsA, if_neg c_9]; rfl)
