/-! the reference: scan -/
theorem mSee_c {u v : mS} (h : u.2.1 0 = v.2.1 0) (z p : Nat) : mSee u z p = mSee v z p := by rw [mSee, mSee, h]
theorem wOk_c {u v : mS} (h : u.2.1 0 = v.2.1 0) (z p n : Nat) : wOk u z p n = wOk v z p n := by
  funext j
  have : wEq u z p j = wEq v z p j := by funext i; rw [wEq, wEq, mSee_c h]
  rw [wOk, wOk, this]
theorem mKey_c {u v : mS} (h : u.2.1 0 = v.2.1 0) (z p n : Nat) : mKey u z p n = mKey v z p n := by rw [mKey, mKey, wOk_c h]
theorem miU2 (u : mS) (k : Nat) (x y : Int32) : miU (miU u k x) k y = miU u k y := by
  have : upd (upd u.1 k x) k y = upd u.1 k y := by
    funext j
    by_cases e : j = k
    · rw [e, pk_us, pk_us]
    · rw [pk_un e, pk_un e, pk_un e]
  show (upd (upd u.1 k x) k y, u.2.1, u.2.2) = _
  rw [this]; rfl
def isBl (c : Int32) : Bool := decide (c = 32) || decide (c = 10)
/-- the first place from p on whose sign isn't one of these -/
def pastOf (f : Int32 → Bool) (v : mS) (z p : Nat) : Nat := fstn (fun i => !f (mSee v z i)) 1001 p
theorem see_out {v : mS} {z p : Nat} (h : z ≤ p) : mSee v z p = -1 := by rw [mSee, if_neg (by omega)]
theorem past_hit {f : Int32 → Bool} {v : mS} {z p k : Nat} (hf : f (-1) = false) (hz : z ≤ 1000) (hk : p ≤ k) (h0 : ∀ i, p ≤ i → i < k → f (mSee v z i) = true) (h1 : f (mSee v z k) = false) : pastOf f v z p = k := by
  refine fstn_hit 1001 p k (fun i a b => by rw [h0 i a b]; rfl) hk ?_ (by rw [h1]; rfl)
  rcases Nat.lt_or_ge k (p + 1001) with q | q
  · exact q
  · exfalso
    have h2 := h0 (p + 1000) (by omega) (by omega)
    rw [see_out (by omega), hf] at h2
    cases h2
theorem past_b {f : Int32 → Bool} {v : mS} {z k : Nat} (hf : f (-1) = false) (h : f (mSee v z k) = true) : k < z := by
  rcases Nat.lt_or_ge k z with q | q
  · exact q
  · rw [see_out q, hf] at h; cases h
def worF (v : mS) (z p : Nat) : Nat → Int32
  | 0 => mSee v z p - 48
  | j + 1 => if j + 1 < 5 then 10 * worF v z p j + mSee v z (p + 1 + j) - 48 else worF v z p j
def scP (v : mS) (z p : Nat) : Nat := pastOf isBl v z p
def scS (v : mS) (z P : Nat) : mS := if mSee v z P = -1 then miU (miU (miU v 5 (nI P)) 3 4) 6 (nI P) else if isSm (mSee v z P) then miU (miU (miU (miU v 5 (nI P)) 4 (mKey v z P (pastOf isSm v z (P + 1) - P))) 3 (if mKey v z P (pastOf isSm v z (P + 1) - P) = -1 then 0 else 1)) 6 (nI (pastOf isSm v z (P + 1))) else if isDg (mSee v z P) then miU (miU (miU (miU v 5 (nI P)) 7 (worF v z P (pastOf isDg v z (P + 1) - (P + 1)))) 3 (if 5 < pastOf isDg v z (P + 1) - P then 0 else 2)) 6 (nI (pastOf isDg v z (P + 1))) else miU (miU (miU v 5 (nI P)) 3 (if mSee v z P = 59 then 3 else 0)) 6 (nI (P + 1))
def spScan (v : mS) (z p : Nat) : mS := scS v z (scP v z p)
set_option maxHeartbeats 4000000 in
set_option maxRecDepth 100000 in
/-- scan() -/
theorem ctX10_scan (l : Launch) (D : va_G) (y : Nat → ClassId) (h : Nat) (a : Nat → Nat) (q qv : Nat) (v : mS) (p0 z : Nat) (hend : v.1 6 = nI p0) (hp0 : p0 ≤ 1000) (hz : v.1 2 = nI z) (hz1 : z ≤ 1000) : nMv l yX10_scan wsX10_scan ({ frames := 6, cells := 0, slots := 0, locals := 133 }) D y h a q qv v [.ref h] (fun v' => v' = spScan v z p0) := by
  refine nMv_of (cc := cX10_scan) (maxL := 4) (ret := none) rfl rfl (Nat.le_of_ble_eq_true rfl) ?_
  intro p e s m below meth c A ls hat hE hR hAe hl
  obtain ⟨hx, hb, hr, hml, hts, hown, hlocks, hK, hP, hD, hA⟩ := hat
  have hin : ∀ w ∈ wsX100, w ∈ wsX10_scan := fun _ h9 => List.mem_cons_of_mem _ (List.mem_append_right _ h9)
  have hl : lv_has ls 4 [(0, .ref h)] := hl
  have hS : va_S A s.heap s.heap [] := va_S.rf
  refine lv_aload_n hx hb dX10_scan_0 rfl (lv_at hl 0 rfl) ?_
  refine mg_end hx hb hts hin hown hK hP (by decide +kernel) dX10_scan_1 ?_
  refine lv_topi (fun x1s ex1s => ?_)
  refine lv_istore_n (lv' := [(1, .int x1s), (0, .ref h)]) hx hb dX10_scan_4 rfl hl (by decide) rfl (fun ls hl => ?_)
  have lp_5 : ∀ (n_5 : Nat) (k : Nat) (x1 : Int32), (p0 ≤ k) → (k ≤ 1000) → (1001 ≤ k + n_5) → (x1 = nI k) → (∀ i, p0 ≤ i → i < k → isBl (mSee v z i) = true) → ∀ (H : Heap) (locs : List Loc), va_P D vwCl (mW h a y v) H → va_D A (mW h a y v) → va_S A s.heap H locs → ∀ (ls : Array Slot), lv_has ls 4 [(0, .ref h), (1, .int x1)] → W p l e (headSpec wsX10_scan ({ frames := 6, cells := 0, slots := 0, locals := 133 })).room s m ([.ref h] : List Value).toArray below meth c H locs 0 0 (MQ below (va_Qv (fun v' => v' = spScan v z p0) (mEnd D y h a s.heap.size) A) ([.ref h] : List Value).toArray s 0 0 A) (F0 m 5 ls []) := by
    intro n_5
    induction n_5 with
    | zero =>
      intro k x1 hk0 hkb hf ex1 hall
      exact absurd hf (by omega)
    | succ n_5 ih_5 =>
      intro k x1 hk0 hkb hf ex1 hall H locs hP hD hS ls hl
      refine lv_aload_n hx hb dX10_scan_5 rfl (lv_at hl 0 rfl) ?_
      refine lv_iload_n hx hb dX10_scan_6 rfl (lv_at hl 1 rfl) ?_
      refine m_callip (As := [.int x1]) (rest := []) ⟨hx, hb, hml, hown, hts⟩ (ex1 ▸ ctX10_see l D y h a v (k) z hz hz1 (by omega)) (cwV 1 hts gX10_scan_X10_see rfl rfl rfl (by decide +kernel) ⟨Nat.le_of_ble_eq_true rfl, Nat.le_of_ble_eq_true rfl⟩) hK hP hD hS hA rfl hl.1 rfl (Nat.le_of_ble_eq_true rfl) dX10_scan_7 ⟨Nat.zero_le _, Nat.zero_le _⟩ (fun H locs hP hD hS => ?_)
      refine lv_bipush (v := 32) hx hb dX10_scan_10 (by decide) ?_
      refine lv_icmp_eq (tgt := 25) hx hb dX10_scan_12 (by decide) (fun c_12 => ?_) (fun c_12 => ?_)
      · have hbl : isBl (mSee v z k) = true := by rw [isBl, decide_eq_true c_12]; rfl
        have hkz := past_b (f := isBl) (by decide) hbl
        obtain ⟨x1_1, ex1_1⟩ : ∃ z : Int32, z = x1 + 1 := ⟨_, rfl⟩
        refine lv_iinc (v := x1_1) (lv' := [(1, .int x1_1), (0, .ref h)]) hx hb dX10_scan_25 hl (k := 1) rfl (by rw [ex1_1]; rfl) (by decide) rfl (fun ls hl => ?_)
        refine lv_goto (tgt := 5) hx hb dX10_scan_28 (by decide) ?_
        exact ih_5 (k + 1) _ (by omega) (by omega) (by omega) (by rw [ex1_1, ex1]; exact nI_1 _) (fun i a1 b1 => by rcases Nat.lt_or_ge i k with q9 | q9; exact hall i a1 q9; rw [show i = k by omega]; exact hbl) _ _ hP hD hS _ (lv_sub hl [1, 0] rfl)
      · refine lv_aload_n hx hb dX10_scan_15 rfl (lv_at hl 0 rfl) ?_
        refine lv_iload_n hx hb dX10_scan_16 rfl (lv_at hl 1 rfl) ?_
        refine m_callip (As := [.int x1]) (rest := []) ⟨hx, hb, hml, hown, hts⟩ (ex1 ▸ ctX10_see l D y h a v (k) z hz hz1 (by omega)) (cwV 1 hts gX10_scan_X10_see rfl rfl rfl (by decide +kernel) ⟨Nat.le_of_ble_eq_true rfl, Nat.le_of_ble_eq_true rfl⟩) hK hP hD hS hA rfl hl.1 rfl (Nat.le_of_ble_eq_true rfl) dX10_scan_17 ⟨Nat.zero_le _, Nat.zero_le _⟩ (fun H locs hP hD hS => ?_)
        refine lv_bipush (v := 10) hx hb dX10_scan_20 (by decide) ?_
        refine lv_icmp_ne (tgt := 31) hx hb dX10_scan_22 (by decide) (fun c_22 => ?_) (fun c_22 => ?_)
        · have hPe : scP v z p0 = k := past_hit (f := isBl) (by decide) hz1 hk0 hall (by rw [isBl, decide_eq_false c_12, decide_eq_false c_22]; rfl)
          refine lv_aload_n hx hb dX10_scan_31 rfl (lv_at hl 0 rfl) ?_
          refine lv_iload_n hx hb dX10_scan_32 rfl (lv_at hl 1 rfl) ?_
          refine mp_at hx hb hts hin hown hK hP hD hS (by decide +kernel) dX10_scan_33 (fun H locs hP hD hS => ?_)
          rw [ex1] at hP hD
          refine lv_aload_n hx hb dX10_scan_36 rfl (lv_at hl 0 rfl) ?_
          refine lv_iload_n hx hb dX10_scan_37 rfl (lv_at hl 1 rfl) ?_
          rw [ex1]
          refine m_callip (As := [.int (nI k)]) (rest := []) ⟨hx, hb, hml, hown, hts⟩ (ctX10_see l D y h a (miU v 5 (nI k)) k z hz hz1 (by omega)) (cwV 1 hts gX10_scan_X10_see rfl rfl rfl (by decide +kernel) ⟨Nat.le_of_ble_eq_true rfl, Nat.le_of_ble_eq_true rfl⟩) hK hP hD hS hA rfl hl.1 rfl (Nat.le_of_ble_eq_true rfl) dX10_scan_38 ⟨Nat.zero_le _, Nat.zero_le _⟩ (fun H locs hP hD hS => ?_)
          refine lv_topi (fun x2 ex2 => ?_)
          refine lv_istore_n (lv' := [(2, .int x2), (0, .ref h), (1, .int x1)]) hx hb dX10_scan_41 rfl hl (by decide) rfl (fun ls hl => ?_)
          rw [mSee_c (u := miU v 5 (nI k)) (v := v) rfl] at ex2
          refine lv_iload_n hx hb dX10_scan_42 rfl (lv_at hl 0 rfl) ?_
          refine lv_iconst (v := (-1)) hx hb dX10_scan_43 (by decide) ?_
          refine lv_icmp_ne (tgt := 58) hx hb dX10_scan_44 (by decide) (fun c_44 => ?_) (fun c_44 => ?_)
          · have hkz9 : k < z := by rcases Nat.lt_or_ge k z with q9 | q9; exact q9; exact absurd (by rw [ex2, see_out q9]) c_44
            refine lv_iload_n hx hb dX10_scan_58 rfl (lv_at hl 2 rfl) ?_
            refine lv_iconst (v := 1) hx hb dX10_scan_59 (by decide) ?_
            refine lv_iadd hx hb dX10_scan_60 ?_
            refine lv_topi (fun x3s ex3s => ?_)
            refine lv_istore_n (lv' := [(3, .int x3s), (2, .int x2), (0, .ref h), (1, .int x1)]) hx hb dX10_scan_61 rfl hl (by decide) rfl (fun ls hl => ?_)
            rw [ex1, nI_1] at ex3s
            refine lv_iload_n hx hb dX10_scan_62 rfl (lv_at hl 1 rfl) ?_
            refine s_calli (As := [.int x2]) (rest := []) ⟨hx, hb, hml, hown, hts⟩ (ctX10_isSmall l x2) (cwS 1 hts gX10_scan_X10_isSmall rfl rfl rfl (by decide +kernel) ⟨Nat.le_of_ble_eq_true rfl, Nat.le_of_ble_eq_true rfl⟩) hP hS rfl hl.1 rfl (Nat.le_of_ble_eq_true rfl) dX10_scan_63 ⟨Nat.zero_le _, Nat.zero_le _⟩ (fun H locs hP hS => ?_)
            refine lv_if_eq (tgt := 118) hx hb dX10_scan_66 (by decide) (fun c_66 => ?_) (fun c_66 => ?_)
            · have b66 : isSm x2 = false := (zI_eq _).mp c_66
              refine lv_iload_n hx hb dX10_scan_118 rfl (lv_at hl 1 rfl) ?_
              refine s_calli (As := [.int x2]) (rest := []) ⟨hx, hb, hml, hown, hts⟩ (ctX10_isDigit l x2) (cwS 1 hts gX10_scan_X10_isDigit rfl rfl rfl (by decide +kernel) ⟨Nat.le_of_ble_eq_true rfl, Nat.le_of_ble_eq_true rfl⟩) hP hS rfl hl.1 rfl (Nat.le_of_ble_eq_true rfl) dX10_scan_119 ⟨Nat.zero_le _, Nat.zero_le _⟩ (fun H locs hP hS => ?_)
              refine lv_if_eq (tgt := 203) hx hb dX10_scan_122 (by decide) (fun c_122 => ?_) (fun c_122 => ?_)
              · have b122 : isDg x2 = false := (zI_eq _).mp c_122
                refine lv_aload_n hx hb dX10_scan_203 rfl (lv_at hl 2 rfl) ?_
                refine lv_iload_n hx hb dX10_scan_204 rfl (lv_at hl 1 rfl) ?_
                refine lv_bipush (v := 59) hx hb dX10_scan_205 (by decide) ?_
                refine lv_icmp_ne (tgt := 214) hx hb dX10_scan_207 (by decide) (fun c_207 => ?_) (fun c_207 => ?_)
                · refine lv_iconst (v := 0) hx hb dX10_scan_214 (by decide) ?_
                  refine mp_sort hx hb hts hin hown hK hP hD hS (by decide +kernel) dX10_scan_215 (fun H locs hP hD hS => ?_)
                  refine lv_aload_n hx hb dX10_scan_218 rfl (lv_at hl 2 rfl) ?_
                  refine lv_iload_n hx hb dX10_scan_219 rfl (lv_at hl 0 rfl) ?_
                  refine mp_end hx hb hts hin hown hK hP hD hS (by decide +kernel) dX10_scan_220 (fun H locs hP hD hS => ?_)
                  exact m_retv hx hb hr hlocks hAe hK hP hD hS dX10_scan_223 (by rw [spScan, hPe, scS, if_neg (by rw [← ex2]; exact c_44), if_neg (by rw [← ex2, b66]; decide), if_neg (by rw [← ex2, b122]; decide), ← ex2, if_neg c_207, ex3s])
                · refine lv_iconst (v := 3) hx hb dX10_scan_210 (by decide) ?_
                  refine lv_goto (tgt := 215) hx hb dX10_scan_211 (by decide) ?_
                  refine mp_sort hx hb hts hin hown hK hP hD hS (by decide +kernel) dX10_scan_215 (fun H locs hP hD hS => ?_)
                  refine lv_aload_n hx hb dX10_scan_218 rfl (lv_at hl 2 rfl) ?_
                  refine lv_iload_n hx hb dX10_scan_219 rfl (lv_at hl 0 rfl) ?_
                  refine mp_end hx hb hts hin hown hK hP hD hS (by decide +kernel) dX10_scan_220 (fun H locs hP hD hS => ?_)
                  exact m_retv hx hb hr hlocks hAe hK hP hD hS dX10_scan_223 (by rw [spScan, hPe, scS, if_neg (by rw [← ex2]; exact c_44), if_neg (by rw [← ex2, b66]; decide), if_neg (by rw [← ex2, b122]; decide), ← ex2, if_pos c_207, ex3s])
              · have b122 : isDg x2 = true := (zI_ne _).mp c_122
                refine lv_aload_n hx hb dX10_scan_125 rfl (lv_at hl 2 rfl) ?_
                refine lv_iload_n hx hb dX10_scan_126 rfl (lv_at hl 1 rfl) ?_
                refine lv_bipush (v := 48) hx hb dX10_scan_127 (by decide) ?_
                refine lv_isub hx hb dX10_scan_129 ?_
                refine mp_worth hx hb hts hin hown hK hP hD hS (by decide +kernel) dX10_scan_130 (fun H locs hP hD hS => ?_)
                have lp_133 : ∀ (n_133 : Nat) (d9 : Nat) (u : mS) (x3 : Int32), (k + 1 + d9 ≤ 1001) → (1002 ≤ k + 1 + d9 + n_133) → (x3 = nI (k + 1 + d9)) → (∀ i, k + 1 ≤ i → i < k + 1 + d9 → isDg (mSee v z i) = true) → (u = miU (miU v 5 (nI k)) 7 (worF v z k d9)) → ∀ (H : Heap) (locs : List Loc), va_P D vwCl (mW h a y u) H → va_D A (mW h a y u) → va_S A s.heap H locs → ∀ (ls : Array Slot), lv_has ls 4 [(0, .ref h), (1, .int x1), (2, .int x2), (3, .int x3)] → W p l e (headSpec wsX10_scan ({ frames := 6, cells := 0, slots := 0, locals := 133 })).room s m ([.ref h] : List Value).toArray below meth c H locs 0 0 (MQ below (va_Qv (fun v' => v' = spScan v z p0) (mEnd D y h a s.heap.size) A) ([.ref h] : List Value).toArray s 0 0 A) (F0 m 133 ls []) := by
                  intro n_133
                  induction n_133 with
                  | zero =>
                    intro d9 u x3 hjb hjf ex3 hdg hu
                    exact absurd hjf (by omega)
                  | succ n_133 ih_133 =>
                    intro d9 u x3 hjb hjf ex3 hdg hu H locs hP hD hS ls hl
                    have huz : u.1 2 = nI z := by rw [hu]; exact hz
                    have hu0 : u.2.1 0 = v.2.1 0 := by rw [hu]; rfl
                    have hu7 : u.1 7 = worF v z k d9 := by rw [hu]; rfl
                    have hsb : x3 - x1 = nI (d9 + 1) := by rw [ex3, ex1, pk_sub (by omega), show k + 1 + d9 - k = d9 + 1 by omega]
                    refine lv_aload_n hx hb dX10_scan_133 rfl (lv_at hl 0 rfl) ?_
                    refine lv_iload_n hx hb dX10_scan_134 rfl (lv_at hl 3 rfl) ?_
                    refine m_callip (As := [.int x3]) (rest := []) ⟨hx, hb, hml, hown, hts⟩ (ex3 ▸ ctX10_see l D y h a u (k + 1 + d9) z huz hz1 (by omega)) (cwV 1 hts gX10_scan_X10_see rfl rfl rfl (by decide +kernel) ⟨Nat.le_of_ble_eq_true rfl, Nat.le_of_ble_eq_true rfl⟩) hK hP hD hS hA rfl hl.1 rfl (Nat.le_of_ble_eq_true rfl) dX10_scan_135 ⟨Nat.zero_le _, Nat.zero_le _⟩ (fun H locs hP hD hS => ?_)
                    refine s_calli (As := [.int _]) (rest := []) ⟨hx, hb, hml, hown, hts⟩ (ctX10_isDigit l _) (cwS 1 hts gX10_scan_X10_isDigit rfl rfl rfl (by decide +kernel) ⟨Nat.le_of_ble_eq_true rfl, Nat.le_of_ble_eq_true rfl⟩) hP hS rfl hl.1 rfl (Nat.le_of_ble_eq_true rfl) dX10_scan_138 ⟨Nat.zero_le _, Nat.zero_le _⟩ (fun H locs hP hS => ?_)
                    refine lv_if_eq (tgt := 184) hx hb dX10_scan_141 (by decide) (fun c_141 => ?_) (fun c_141 => ?_)
                    · rw [mSee_c (u := u) (v := v) hu0] at c_141
                      have hs141 : isDg (mSee v z (k + 1 + d9)) = false := (zI_eq _).mp c_141
                      have hpe : pastOf isDg v z (k + 1) = k + 1 + d9 := past_hit (f := isDg) (by decide) hz1 (by omega) hdg hs141
                      refine lv_aload_n hx hb dX10_scan_184 rfl (lv_at hl 0 rfl) ?_
                      refine lv_iload_n hx hb dX10_scan_185 rfl (lv_at hl 3 rfl) ?_
                      refine lv_iload_n hx hb dX10_scan_186 rfl (lv_at hl 1 rfl) ?_
                      refine lv_isub hx hb dX10_scan_187 ?_
                      refine lv_iconst (v := 5) hx hb dX10_scan_188 (by decide) ?_
                      refine lv_icmp_le (tgt := 196) hx hb dX10_scan_189 (by decide) (fun c_189 => ?_) (fun c_189 => ?_)
                      · have h189 : ¬ 5 < k + 1 + d9 - k := by rw [hsb] at c_189; have := (nI_leI (b := 5) (by omega) (by omega)).mp c_189; omega
                        refine lv_iconst (v := 2) hx hb dX10_scan_196 (by decide) ?_
                        refine mp_sort hx hb hts hin hown hK hP hD hS (by decide +kernel) dX10_scan_197 (fun H locs hP hD hS => ?_)
                        refine lv_goto (tgt := 218) hx hb dX10_scan_200 (by decide) ?_
                        refine lv_aload_n hx hb dX10_scan_218 rfl (lv_at hl 0 rfl) ?_
                        refine lv_iload_n hx hb dX10_scan_219 rfl (lv_at hl 3 rfl) ?_
                        refine mp_end hx hb hts hin hown hK hP hD hS (by decide +kernel) dX10_scan_220 (fun H locs hP hD hS => ?_)
                        exact m_retv hx hb hr hlocks hAe hK hP hD hS dX10_scan_223 (by rw [spScan, hPe, scS, if_neg (by rw [← ex2]; exact c_44), if_neg (by rw [← ex2, b66]; decide), if_pos (by rw [← ex2]; exact b122), hpe, if_neg h189, ex3, hu, show k + 1 + d9 - (k + 1) = d9 by omega])
                      · have h189 : 5 < k + 1 + d9 - k := by rw [hsb] at c_189; have : ¬ d9 + 1 ≤ 5 := fun q9 => c_189 (nI_le (b := 5) q9 (by omega)); omega
                        refine lv_iconst (v := 0) hx hb dX10_scan_192 (by decide) ?_
                        refine lv_goto (tgt := 197) hx hb dX10_scan_193 (by decide) ?_
                        refine mp_sort hx hb hts hin hown hK hP hD hS (by decide +kernel) dX10_scan_197 (fun H locs hP hD hS => ?_)
                        refine lv_goto (tgt := 218) hx hb dX10_scan_200 (by decide) ?_
                        refine lv_aload_n hx hb dX10_scan_218 rfl (lv_at hl 0 rfl) ?_
                        refine lv_iload_n hx hb dX10_scan_219 rfl (lv_at hl 3 rfl) ?_
                        refine mp_end hx hb hts hin hown hK hP hD hS (by decide +kernel) dX10_scan_220 (fun H locs hP hD hS => ?_)
                        exact m_retv hx hb hr hlocks hAe hK hP hD hS dX10_scan_223 (by rw [spScan, hPe, scS, if_neg (by rw [← ex2]; exact c_44), if_neg (by rw [← ex2, b66]; decide), if_pos (by rw [← ex2]; exact b122), hpe, if_pos h189, ex3, hu, show k + 1 + d9 - (k + 1) = d9 by omega])
                    · rw [mSee_c (u := u) (v := v) hu0] at c_141
                      have hs141 : isDg (mSee v z (k + 1 + d9)) = true := (zI_ne _).mp c_141
                      have hjz := past_b (f := isDg) (by decide) hs141
                      refine lv_aload_n hx hb dX10_scan_144 rfl (lv_at hl 0 rfl) ?_
                      refine lv_iload_n hx hb dX10_scan_145 rfl (lv_at hl 3 rfl) ?_
                      refine lv_iload_n hx hb dX10_scan_146 rfl (lv_at hl 1 rfl) ?_
                      refine lv_isub hx hb dX10_scan_147 ?_
                      refine lv_iconst (v := 5) hx hb dX10_scan_148 (by decide) ?_
                      refine lv_icmp_ge (tgt := 171) hx hb dX10_scan_149 (by decide) (fun c_149 => ?_) (fun c_149 => ?_)
                      · have h149 : ¬ d9 + 1 < 5 := by rw [hsb] at c_149; have := (nI_leI (a := 5) (by omega) (by omega)).mp c_149; omega
                        refine lv_aload_n hx hb dX10_scan_171 rfl (lv_at hl 0 rfl) ?_
                        refine mg_worth hx hb hts hin hown hK hP (by decide +kernel) dX10_scan_172 ?_
                        refine mp_worth hx hb hts hin hown hK hP hD hS (by decide +kernel) dX10_scan_175 (fun H locs hP hD hS => ?_)
                        obtain ⟨x3_2, ex3_2⟩ : ∃ z : Int32, z = x3 + 1 := ⟨_, rfl⟩
                        refine lv_iinc (v := x3_2) (lv' := [(3, .int x3_2), (0, .ref h), (1, .int x1), (2, .int x2)]) hx hb dX10_scan_178 hl (k := 3) rfl (by rw [ex3_2]; rfl) (by decide) rfl (fun ls hl => ?_)
                        refine lv_goto (tgt := 133) hx hb dX10_scan_181 (by decide) ?_
                        exact ih_133 (d9 + 1) _ _ (by omega) (by omega) (by rw [ex3_2, ex3]; exact nI_1 _) (fun i a1 b1 => by rcases Nat.lt_or_ge i (k + 1 + d9) with q9 | q9; exact hdg i a1 q9; rw [show i = k + 1 + d9 by omega]; exact hs141) (by rw [hu7, hu, miU2, worF, if_neg h149]) _ _ hP hD hS _ (lv_sub hl [1, 2, 3, 0] rfl)
                      · have h149 : d9 + 1 < 5 := by rw [hsb] at c_149; exact Nat.not_le.mp (fun q9 => c_149 (nI_le (a := 5) q9 (by omega)))
                        refine lv_bipush (v := 10) hx hb dX10_scan_152 (by decide) ?_
                        refine lv_aload_n hx hb dX10_scan_154 rfl (lv_at hl 0 rfl) ?_
                        refine mg_worth hx hb hts hin hown hK hP (by decide +kernel) dX10_scan_155 ?_
                        refine lv_imul hx hb dX10_scan_158 ?_
                        refine lv_aload_n hx hb dX10_scan_159 rfl (lv_at hl 0 rfl) ?_
                        refine lv_iload_n hx hb dX10_scan_160 rfl (lv_at hl 3 rfl) ?_
                        refine m_callip (As := [.int x3]) (rest := [.int _, .ref h]) ⟨hx, hb, hml, hown, hts⟩ (ex3 ▸ ctX10_see l D y h a u (k + 1 + d9) z huz hz1 (by omega)) (cwV 1 hts gX10_scan_X10_see rfl rfl rfl (by decide +kernel) ⟨Nat.le_of_ble_eq_true rfl, Nat.le_of_ble_eq_true rfl⟩) hK hP hD hS hA rfl hl.1 rfl (Nat.le_of_ble_eq_true rfl) dX10_scan_161 ⟨Nat.zero_le _, Nat.zero_le _⟩ (fun H locs hP hD hS => ?_)
                        refine lv_iadd hx hb dX10_scan_164 ?_
                        refine lv_bipush (v := 48) hx hb dX10_scan_165 (by decide) ?_
                        refine lv_isub hx hb dX10_scan_167 ?_
                        refine lv_goto (tgt := 175) hx hb dX10_scan_168 (by decide) ?_
                        refine mp_worth hx hb hts hin hown hK hP hD hS (by decide +kernel) dX10_scan_175 (fun H locs hP hD hS => ?_)
                        obtain ⟨x3_3, ex3_3⟩ : ∃ z : Int32, z = x3 + 1 := ⟨_, rfl⟩
                        refine lv_iinc (v := x3_3) (lv' := [(3, .int x3_3), (0, .ref h), (1, .int x1), (2, .int x2)]) hx hb dX10_scan_178 hl (k := 3) rfl (by rw [ex3_3]; rfl) (by decide) rfl (fun ls hl => ?_)
                        refine lv_goto (tgt := 133) hx hb dX10_scan_181 (by decide) ?_
                        exact ih_133 (d9 + 1) _ _ (by omega) (by omega) (by rw [ex3_3, ex3]; exact nI_1 _) (fun i a1 b1 => by rcases Nat.lt_or_ge i (k + 1 + d9) with q9 | q9; exact hdg i a1 q9; rw [show i = k + 1 + d9 by omega]; exact hs141) (by rw [hu7, mSee_c (u := u) (v := v) hu0, hu, miU2, worF, if_pos h149]) _ _ hP hD hS _ (lv_sub hl [1, 2, 3, 0] rfl)
                exact lp_133 1002 0 _ _ (by omega) (by omega) ex3s (fun i a1 b1 => absurd b1 (by omega)) (by rw [ex2]; rfl) _ _ hP hD hS _ (lv_sub hl [2, 3, 1, 0] rfl)
            · have b66 : isSm x2 = true := (zI_ne _).mp c_66
              have lp_69 : ∀ (n_69 : Nat) (j : Nat) (x3 : Int32), (k + 1 ≤ j) → (j ≤ 1000) → (1002 ≤ j + n_69) → (x3 = nI j) → (∀ i, k + 1 ≤ i → i < j → isSm (mSee v z i) = true) → ∀ (H : Heap) (locs : List Loc), va_P D vwCl (mW h a y (miU v 5 (nI k))) H → va_D A (mW h a y (miU v 5 (nI k))) → va_S A s.heap H locs → ∀ (ls : Array Slot), lv_has ls 4 [(0, .ref h), (1, .int x1), (2, .int x2), (3, .int x3)] → W p l e (headSpec wsX10_scan ({ frames := 6, cells := 0, slots := 0, locals := 133 })).room s m ([.ref h] : List Value).toArray below meth c H locs 0 0 (MQ below (va_Qv (fun v' => v' = spScan v z p0) (mEnd D y h a s.heap.size) A) ([.ref h] : List Value).toArray s 0 0 A) (F0 m 69 ls []) := by
                intro n_69
                induction n_69 with
                | zero =>
                  intro j x3 hj0 hjb hjf ex3 hsm
                  exact absurd hjf (by omega)
                | succ n_69 ih_69 =>
                  intro j x3 hj0 hjb hjf ex3 hsm H locs hP hD hS ls hl
                  refine lv_aload_n hx hb dX10_scan_69 rfl (lv_at hl 0 rfl) ?_
                  refine lv_iload_n hx hb dX10_scan_70 rfl (lv_at hl 3 rfl) ?_
                  refine m_callip (As := [.int x3]) (rest := []) ⟨hx, hb, hml, hown, hts⟩ (ex3 ▸ ctX10_see l D y h a (miU v 5 (nI k)) (j) z hz hz1 (by omega)) (cwV 1 hts gX10_scan_X10_see rfl rfl rfl (by decide +kernel) ⟨Nat.le_of_ble_eq_true rfl, Nat.le_of_ble_eq_true rfl⟩) hK hP hD hS hA rfl hl.1 rfl (Nat.le_of_ble_eq_true rfl) dX10_scan_71 ⟨Nat.zero_le _, Nat.zero_le _⟩ (fun H locs hP hD hS => ?_)
                  refine s_calli (As := [.int _]) (rest := []) ⟨hx, hb, hml, hown, hts⟩ (ctX10_isSmall l _) (cwS 1 hts gX10_scan_X10_isSmall rfl rfl rfl (by decide +kernel) ⟨Nat.le_of_ble_eq_true rfl, Nat.le_of_ble_eq_true rfl⟩) hP hS rfl hl.1 rfl (Nat.le_of_ble_eq_true rfl) dX10_scan_74 ⟨Nat.zero_le _, Nat.zero_le _⟩ (fun H locs hP hS => ?_)
                  refine lv_if_eq (tgt := 86) hx hb dX10_scan_77 (by decide) (fun c_77 => ?_) (fun c_77 => ?_)
                  · rw [mSee_c (u := miU v 5 (nI k)) (v := v) rfl] at c_77
                    have hs77 : isSm (mSee v z j) = false := (zI_eq _).mp c_77
                    have hpe : pastOf isSm v z (k + 1) = j := past_hit (f := isSm) (by decide) hz1 hj0 hsm hs77
                    refine lv_aload_n hx hb dX10_scan_86 rfl (lv_at hl 0 rfl) ?_
                    refine lv_aload_n hx hb dX10_scan_87 rfl (lv_at hl 0 rfl) ?_
                    refine lv_iload_n hx hb dX10_scan_88 rfl (lv_at hl 1 rfl) ?_
                    refine lv_iload_n hx hb dX10_scan_89 rfl (lv_at hl 3 rfl) ?_
                    refine lv_iload_n hx hb dX10_scan_90 rfl (lv_at hl 1 rfl) ?_
                    refine lv_isub hx hb dX10_scan_91 ?_
                    rw [show x3 - x1 = nI (j - k) by rw [ex3, ex1, pk_sub (by omega)], ex1]
                    refine n_calli (As := [.int (nI k), .int (nI (j - k))]) (rest := [.ref h]) ⟨hx, hb, hml, hown, hts⟩ (ctX10_keyAt l D y h a q qv (miU v 5 (nI k)) k (j - k) z hz hz1 hkb (by omega)) (cwV 2 hts gX10_scan_X10_keyAt rfl rfl rfl (by decide +kernel) ⟨Nat.le_of_ble_eq_true rfl, Nat.le_of_ble_eq_true rfl⟩) hE hR hK hP hD hS hA rfl hl.1 rfl (Nat.le_of_ble_eq_true rfl) dX10_scan_92 ⟨Nat.zero_le _, Nat.zero_le _⟩ (fun r92 v92 H locs hq hP hD hS => ?_)
                    obtain ⟨er92, ev92⟩ := hq
                    rw [ev92] at hP hD
                    rw [mKey_c (u := miU v 5 (nI k)) (v := v) rfl] at er92
                    refine mp_what hx hb hts hin hown hK hP hD hS (by decide +kernel) dX10_scan_95 (fun H locs hP hD hS => ?_)
                    refine lv_aload_n hx hb dX10_scan_98 rfl (lv_at hl 0 rfl) ?_
                    refine lv_aload_n hx hb dX10_scan_99 rfl (lv_at hl 0 rfl) ?_
                    refine mg_what hx hb hts hin hown hK hP (by decide +kernel) dX10_scan_100 ?_
                    refine lv_iconst (v := (-1)) hx hb dX10_scan_103 (by decide) ?_
                    refine lv_icmp_ne (tgt := 111) hx hb dX10_scan_104 (by decide) (fun c_104 => ?_) (fun c_104 => ?_)
                    · refine lv_iconst (v := 1) hx hb dX10_scan_111 (by decide) ?_
                      refine mp_sort hx hb hts hin hown hK hP hD hS (by decide +kernel) dX10_scan_112 (fun H locs hP hD hS => ?_)
                      refine lv_goto (tgt := 218) hx hb dX10_scan_115 (by decide) ?_
                      refine lv_aload_n hx hb dX10_scan_218 rfl (lv_at hl 0 rfl) ?_
                      refine lv_iload_n hx hb dX10_scan_219 rfl (lv_at hl 3 rfl) ?_
                      refine mp_end hx hb hts hin hown hK hP hD hS (by decide +kernel) dX10_scan_220 (fun H locs hP hD hS => ?_)
                      exact m_retv hx hb hr hlocks hAe hK hP hD hS dX10_scan_223 (by rw [spScan, hPe, scS, if_neg (by rw [← ex2]; exact c_44), if_pos (by rw [← ex2]; exact b66), hpe, ← er92, if_neg (show ¬ r92 = -1 from c_104), ex3])
                    · refine lv_iconst (v := 0) hx hb dX10_scan_107 (by decide) ?_
                      refine lv_goto (tgt := 112) hx hb dX10_scan_108 (by decide) ?_
                      refine mp_sort hx hb hts hin hown hK hP hD hS (by decide +kernel) dX10_scan_112 (fun H locs hP hD hS => ?_)
                      refine lv_goto (tgt := 218) hx hb dX10_scan_115 (by decide) ?_
                      refine lv_aload_n hx hb dX10_scan_218 rfl (lv_at hl 0 rfl) ?_
                      refine lv_iload_n hx hb dX10_scan_219 rfl (lv_at hl 3 rfl) ?_
                      refine mp_end hx hb hts hin hown hK hP hD hS (by decide +kernel) dX10_scan_220 (fun H locs hP hD hS => ?_)
                      exact m_retv hx hb hr hlocks hAe hK hP hD hS dX10_scan_223 (by rw [spScan, hPe, scS, if_neg (by rw [← ex2]; exact c_44), if_pos (by rw [← ex2]; exact b66), hpe, ← er92, if_pos (show r92 = -1 from c_104), ex3])
                  · rw [mSee_c (u := miU v 5 (nI k)) (v := v) rfl] at c_77
                    have hs77 : isSm (mSee v z j) = true := (zI_ne _).mp c_77
                    have hjz := past_b (f := isSm) (by decide) hs77
                    obtain ⟨x3_4, ex3_4⟩ : ∃ z : Int32, z = x3 + 1 := ⟨_, rfl⟩
                    refine lv_iinc (v := x3_4) (lv' := [(3, .int x3_4), (0, .ref h), (1, .int x1), (2, .int x2)]) hx hb dX10_scan_80 hl (k := 3) rfl (by rw [ex3_4]; rfl) (by decide) rfl (fun ls hl => ?_)
                    refine lv_goto (tgt := 69) hx hb dX10_scan_83 (by decide) ?_
                    exact ih_69 (j + 1) _ (by omega) (by omega) (by omega) (by rw [ex3_4, ex3]; exact nI_1 _) (fun i a1 b1 => by rcases Nat.lt_or_ge i j with q9 | q9; exact hsm i a1 q9; rw [show i = j by omega]; exact hs77) _ _ hP hD hS _ (lv_sub hl [1, 2, 3, 0] rfl)
              exact lp_69 1002 (k + 1) _ (Nat.le_refl _) (by omega) (by omega) ex3s (fun i a1 b1 => absurd b1 (by omega)) _ _ hP hD hS _ (lv_sub hl [2, 3, 1, 0] rfl)
          · refine lv_aload_n hx hb dX10_scan_47 rfl (lv_at hl 1 rfl) ?_
            refine lv_iconst (v := 4) hx hb dX10_scan_48 (by decide) ?_
            refine mp_sort hx hb hts hin hown hK hP hD hS (by decide +kernel) dX10_scan_49 (fun H locs hP hD hS => ?_)
            refine lv_aload_n hx hb dX10_scan_52 rfl (lv_at hl 1 rfl) ?_
            refine lv_iload_n hx hb dX10_scan_53 rfl (lv_at hl 2 rfl) ?_
            refine mp_end hx hb hts hin hown hK hP hD hS (by decide +kernel) dX10_scan_54 (fun H locs hP hD hS => ?_)
            exact m_retv hx hb hr hlocks hAe hK hP hD hS dX10_scan_57 (by rw [spScan, hPe, scS, if_pos (by rw [← ex2]; exact c_44), ex1])
        · have hbl : isBl (mSee v z k) = true := by rw [isBl, decide_eq_true c_22]; simp
          have hkz := past_b (f := isBl) (by decide) hbl
          obtain ⟨x1_5, ex1_5⟩ : ∃ z : Int32, z = x1 + 1 := ⟨_, rfl⟩
          refine lv_iinc (v := x1_5) (lv' := [(1, .int x1_5), (0, .ref h)]) hx hb dX10_scan_25 hl (k := 1) rfl (by rw [ex1_5]; rfl) (by decide) rfl (fun ls hl => ?_)
          refine lv_goto (tgt := 5) hx hb dX10_scan_28 (by decide) ?_
          exact ih_5 (k + 1) _ (by omega) (by omega) (by omega) (by rw [ex1_5, ex1]; exact nI_1 _) (fun i a1 b1 => by rcases Nat.lt_or_ge i k with q9 | q9; exact hall i a1 q9; rw [show i = k by omega]; exact hbl) _ _ hP hD hS _ (lv_sub hl [1, 0] rfl)
  exact lp_5 1001 p0 _ (Nat.le_refl _) hp0 (by omega) (by rw [ex1s, hend]) (fun i a1 b1 => absurd b1 (by omega)) _ _ hP hD hS _ (lv_sub hl [1, 0] rfl)
