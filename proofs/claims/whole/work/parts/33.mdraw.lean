/-! the reference: draw -/
def drC (v : mS) (t : Int32) (n r l : Nat) : Int32 := fInt (mAtP v t (nI l) (nI r)) n
def drL (v : mS) (t : Int32) (n r : Nat) (u : mS) : Nat → mS
  | 0 => u
  | l + 1 => miU (mrU (mrU (drL v t n r u l) 23 (sI (drC v t n r l)) 1) 26 (sI ((drL v t n r u l).1 27)) (drC v t n r l)) 27 ((drL v t n r u l).1 27 + 1)
def drW (v : mS) (R r w : Nat) : Int64 := v.2.2 29 (32 * (R - r - 1) + (w - 1))
def dr (v : mS) (t : Int32) (n R ww : Nat) (num : Int64) : Nat → Int64 × Nat × mS
  | 0 => (num, ww, mrU v 25 (sI t) 1)
  | r + 1 => if (dr v t n R ww num r).2.1 = 0 then dr v t n R ww num r else if (dr v t n R ww num r).1 < drW v R r (dr v t n R ww num r).2.1 then ((dr v t n R ww num r).1, (dr v t n R ww num r).2.1 - 1, drL v t n r (dr v t n R ww num r).2.2 5) else ((dr v t n R ww num r).1 - drW v R r (dr v t n R ww num r).2.1, (dr v t n R ww num r).2.1, (dr v t n R ww num r).2.2)
theorem drL_keep (v : mS) (t : Int32) (n r : Nat) (u : mS) (l : Nat) : (∀ i, i ≠ 27 → (drL v t n r u l).1 i = u.1 i) ∧ (∀ s, s ≠ 23 → s ≠ 26 → (drL v t n r u l).2.1 s = u.2.1 s) ∧ (drL v t n r u l).2.2 = u.2.2 := by
  induction l with
  | zero => exact ⟨fun _ _ => rfl, fun _ _ _ => rfl, rfl⟩
  | succ l ih =>
    rw [drL]
    refine ⟨fun i hi => ?_, fun s h1 h2 => ?_, ih.2.2⟩
    · show upd (drL v t n r u l).1 27 _ i = _
      rw [pk_un hi]; exact ih.1 i hi
    · show va_up (va_up (drL v t n r u l).2.1 23 _) 26 _ s = _
      rw [va_up, if_neg h2, va_up, if_neg h1]; exact ih.2.1 s h1 h2
theorem drL_27 {v : mS} {t : Int32} {n r : Nat} {u : mS} {m : Nat} (h : u.1 27 = nI m) (l : Nat) : (drL v t n r u l).1 27 = nI (m + l) := by
  induction l with
  | zero => exact h
  | succ l ih =>
    rw [drL]
    show upd (drL v t n r u l).1 27 _ 27 = _
    rw [pk_us, ih, nI_1]; rfl
theorem dr_keep (v : mS) (t : Int32) (n R ww : Nat) (num : Int64) (r : Nat) : (∀ i, i ≠ 27 → (dr v t n R ww num r).2.2.1 i = v.1 i) ∧ (∀ s, s ≠ 23 → s ≠ 25 → s ≠ 26 → (dr v t n R ww num r).2.2.2.1 s = v.2.1 s) ∧ (dr v t n R ww num r).2.2.2.2 = v.2.2 := by
  induction r with
  | zero => exact ⟨fun _ _ => rfl, fun s _ h _ => by show va_up v.2.1 25 _ s = _; rw [va_up, if_neg h], rfl⟩
  | succ r ih =>
    rw [dr]
    split
    · exact ih
    · split
      · have h := drL_keep v t n r (dr v t n R ww num r).2.2 5
        exact ⟨fun i hi => (h.1 i hi).trans (ih.1 i hi), fun s h1 h2 h3 => (h.2.1 s h1 h3).trans (ih.2.1 s h1 h2 h3), h.2.2.trans ih.2.2⟩
      · exact ih
theorem dr_27 {v : mS} {cm : Nat} (h : v.1 27 = nI cm) (t : Int32) (n R ww : Nat) (num : Int64) (r : Nat) : (dr v t n R ww num r).2.1 ≤ ww ∧ (dr v t n R ww num r).2.2.1 27 = nI (cm + 5 * (ww - (dr v t n R ww num r).2.1)) := by
  induction r with
  | zero => exact ⟨Nat.le_refl _, by show v.1 27 = _; rw [h]; simp [dr]⟩
  | succ r ih =>
    rw [dr]
    split
    · exact ih
    · rename_i h0
      split
      · refine ⟨by show (dr v t n R ww num r).2.1 - 1 ≤ ww; omega, ?_⟩
        show (drL v t n r (dr v t n R ww num r).2.2 5).1 27 = nI (cm + 5 * (ww - ((dr v t n R ww num r).2.1 - 1)))
        rw [drL_27 ih.2]
        congr 1
        omega
      · exact ih
theorem dr_stop {v : mS} {t : Int32} {n R ww : Nat} {num : Int64} {r : Nat} (h : (dr v t n R ww num r).2.1 = 0) (k : Nat) : dr v t n R ww num (r + k) = dr v t n R ww num r := by
  induction k with
  | zero => rfl
  | succ k ih =>
    rw [← Nat.add_assoc, dr, ih, if_pos h]
theorem mAtP_c {u v : mS} (h1 : u.2.1 16 = v.2.1 16) (h2 : u.2.1 17 = v.2.1 17) (h3 : u.2.1 22 = v.2.1 22) (t w r : Int32) : mAtP u t w r = mAtP v t w r := by funext i; rw [mAtP, mAtP, h1, h2, h3]
def okDraw (n : Nat) (v : mS) (t w : Int32) (num : Int64) : Bool := isT t && (inR 0 (mRows v t n) w && decide (0 ≤ num.toInt ∧ num.toInt ≤ (v.2.2 29 (32 * mRows v t n + sI w) - 1).toInt))
def spDraw (n : Nat) (v : mS) (t w : Int32) (num : Int64) : Int32 × mS := if okDraw n v t w num then (if v.2.1 25 (sI t) = 0 then (5 * w, (dr v t n (mRows v t n) (sI w) num (mRows v t n)).2.2) else (-4, v)) else (-2, v)
theorem mIn_64 (x lo hi : Int64) : mIn x lo hi = zI (decide (lo.toInt ≤ x.toInt ∧ x.toInt ≤ hi.toInt)) := by
  rw [mIn_eq]
  simp only [Int64.le_iff_toInt_le]
theorem fstn_none {p : Nat → Bool} {n c : Nat} (h : n ≤ fstn p n 0) (hc : c < n) : p c = false := by
  rcases Classical.em (∃ j, j < n ∧ p j = true) with ⟨j, hj, hp⟩ | q
  · obtain ⟨k, ⟨hk1, hk2⟩, hk3⟩ := pk_least (fun k => k < n ∧ p k = true) ⟨j, hj, hp⟩
    have := fstn_hit (p := p) n 0 k (fun i _ hi => by
      cases e : p i with
      | false => rfl
      | true => exact absurd ⟨by omega, e⟩ (hk3 i hi)) (Nat.zero_le _) (by omega) hk2
    omega
  · cases e : p c with
    | false => rfl
    | true => exact absurd ⟨c, hc, e⟩ q
theorem pk_m1' {k : Nat} (h : 0 < k) : nI k + (-1) = nI (k - 1) := by
  obtain ⟨j, rfl⟩ : ∃ j, k = j + 1 := ⟨k - 1, by omega⟩
  exact pk_m1 j
set_option maxHeartbeats 4000000 in
set_option maxRecDepth 100000 in
/-- draw(t, w, num) -/
theorem ctX10_draw (l : Launch) (D : va_G) (y : Nat → ClassId) (h : Nat) (a : Nat → Nat) (v : mS) (t w : Int32) (num : Int64) (n cm : Nat) (hn : v.1 15 = nI n) (hn1 : n ≤ 150) (hcm : v.1 27 = nI cm) (hdw : isT t = true → v.2.1 25 (sI t) = 0 → cm + 5 * mRows v t n ≤ 150 ∧ ∀ l, l < 5 → ∀ r, r < mRows v t n → ∃ c, c < n ∧ mAtP v t (nI l) (nI r) c = true) : mMi l yX10_draw wsX10_draw ({ frames := 2, cells := 0, slots := 0, locals := 47 }) D y h a v [.ref h, .int t, .int w, .long num] (fun r v' => (r, v') = spDraw n v t w num) := by
  refine mMi_of (cc := cX10_draw) (maxL := 14) (ret := (some .int)) rfl rfl (Nat.le_of_ble_eq_true rfl) ?_
  intro p e s m below meth c A ls hat hAe hl
  obtain ⟨hx, hb, hr, hml, hts, hown, hlocks, hK, hP, hD, hA⟩ := hat
  have hin : ∀ w ∈ wsX100, w ∈ wsX10_draw := fun _ h9 => List.mem_cons_of_mem _ (List.mem_append_right _ h9)
  have hl : lv_has ls 14 [(0, .ref h), (1, .int t), (2, .int w), (3, .long num)] := hl
  have hS : va_S A s.heap s.heap [] := va_S.rf
  have hrl := mRows_le v t n
  refine lv_iload_n hx hb dX10_draw_0 rfl (lv_at hl 1 rfl) ?_
  refine s_calli (As := [.int t]) (rest := []) ⟨hx, hb, hml, hown, hts⟩ (ctX10_isTribe l t) (cwS 1 hts gX10_draw_X10_isTribe rfl rfl rfl (by decide +kernel) ⟨Nat.le_of_ble_eq_true rfl, Nat.le_of_ble_eq_true rfl⟩) hP hS rfl hl.1 rfl (Nat.le_of_ble_eq_true rfl) dX10_draw_1 ⟨Nat.zero_le _, Nat.zero_le _⟩ (fun H locs hP hS => ?_)
  refine lv_if_ne (tgt := 10) hx hb dX10_draw_4 (by decide) (fun c_4 => ?_) (fun c_4 => ?_)
  · have b4 : isT t = true := (zI_ne _).mp c_4
    obtain ⟨tt, ht10, ett⟩ := (inR_k 10 (hi := 9) rfl (by omega)).mp b4
    have hct : t.toNatClampNeg = tt := by rw [ett]; exact nI_clamp (by omega)
    have hit : vp_in t 10 := by rw [ett]; exact vp_in_nI ht10 (by omega)
    refine lv_aload_n hx hb dX10_draw_10 rfl (lv_at hl 0 rfl) ?_
    refine lv_iload_n hx hb dX10_draw_11 rfl (lv_at hl 1 rfl) ?_
    refine m_callip (As := [.int t]) (rest := []) ⟨hx, hb, hml, hown, hts⟩ (ctX10_rowsOf l D y h a v t n hn hn1) (cwV 1 hts gX10_draw_X10_rowsOf rfl rfl rfl (by decide +kernel) ⟨Nat.le_of_ble_eq_true rfl, Nat.le_of_ble_eq_true rfl⟩) hK hP hD hS hA rfl hl.1 rfl (Nat.le_of_ble_eq_true rfl) dX10_draw_12 ⟨Nat.zero_le _, Nat.zero_le _⟩ (fun H locs hP hD hS => ?_)
    refine lv_topi (fun R5 eR5 => ?_)
    refine lv_istore (lv' := [(5, .int R5), (0, .ref h), (1, .int t), (2, .int w), (3, .long num)]) hx hb dX10_draw_15 hl (by decide) rfl (fun ls hl => ?_)
    have eR := eR5
    refine lv_iload_n hx hb dX10_draw_17 rfl (lv_at hl 3 rfl) ?_
    refine lv_i2l hx hb dX10_draw_18 rfl ?_
    refine lv_lconst (v := 0) hx hb dX10_draw_19 (by decide) ?_
    refine lv_iload hx hb dX10_draw_20 (lv_at hl 0 rfl) ?_
    refine lv_i2l hx hb dX10_draw_22 rfl ?_
    refine s_calli (As := [.long (w.toInt64), .long 0, .long _]) (rest := []) ⟨hx, hb, hml, hown, hts⟩ (ctX10_in l _ _ _) (cwS 3 hts gX10_draw_X10_in rfl rfl rfl (by decide +kernel) ⟨Nat.le_of_ble_eq_true rfl, Nat.le_of_ble_eq_true rfl⟩) hP hS rfl hl.1 rfl (Nat.le_of_ble_eq_true rfl) dX10_draw_23 ⟨Nat.zero_le _, Nat.zero_le _⟩ (fun H locs hP hS => ?_)
    refine lv_if_eq (tgt := 51) hx hb dX10_draw_26 (by decide) (fun c_26 => ?_) (fun c_26 => ?_)
    · rw [eR, mIn_R, Int32.toInt_toInt64, nI_toInt (by omega)] at c_26
      have b26 : inR 0 (mRows v t n) w = false := (zI_eq _).mp c_26
      refine lv_bipush (v := (-2)) hx hb dX10_draw_51 (by decide) ?_
      exact m_reti hx hb hr hlocks hAe hK hP hD hS rfl dX10_draw_53 (by rw [spDraw, if_neg (by simp [okDraw, b4, b26])])
    · rw [eR, mIn_R, Int32.toInt_toInt64, nI_toInt (by omega)] at c_26
      have b26 : inR 0 (mRows v t n) w = true := (zI_ne _).mp c_26
      obtain ⟨ww, hww, etw⟩ := (inR_k (mRows v t n + 1) (hi := mRows v t n) (by omega) (by omega)).mp b26
      have hcw : sI w = ww := by rw [etw]; exact nI_clamp (by omega)
      have hix : (32 : Int32) * R5 + w = nI (32 * mRows v t n + ww) := by rw [eR, etw, ix32]
      refine lv_lload_n hx hb dX10_draw_29 rfl (lv_at hl 4 rfl) ?_
      refine lv_lconst (v := 0) hx hb dX10_draw_30 (by decide) ?_
      refine lv_aload_n hx hb dX10_draw_31 rfl (lv_at hl 1 rfl) ?_
      refine mg_ways hx hb hts hin hown hK hP (by decide +kernel) dX10_draw_32 ?_
      refine lv_bipush (v := 32) hx hb dX10_draw_35 (by decide) ?_
      refine lv_iload hx hb dX10_draw_37 (lv_at hl 0 rfl) ?_
      refine lv_imul hx hb dX10_draw_39 ?_
      refine lv_iload_n hx hb dX10_draw_40 rfl (lv_at hl 3 rfl) ?_
      refine lv_iadd hx hb dX10_draw_41 ?_
      rw [hix]
      refine ml_ways hx hb hK hP (vp_in_nI (by omega) (by omega)) dX10_draw_42 ?_
      refine lv_lconst (v := 1) hx hb dX10_draw_43 (by decide) ?_
      refine lv_lsub hx hb dX10_draw_44 ?_
      refine s_calli (As := [.long num, .long 0, .long _]) (rest := []) ⟨hx, hb, hml, hown, hts⟩ (ctX10_in l _ _ _) (cwS 3 hts gX10_draw_X10_in rfl rfl rfl (by decide +kernel) ⟨Nat.le_of_ble_eq_true rfl, Nat.le_of_ble_eq_true rfl⟩) hP hS rfl hl.1 rfl (Nat.le_of_ble_eq_true rfl) dX10_draw_45 ⟨Nat.zero_le _, Nat.zero_le _⟩ (fun H locs hP hS => ?_)
      refine lv_if_ne (tgt := 54) hx hb dX10_draw_48 (by decide) (fun c_48 => ?_) (fun c_48 => ?_)
      · rw [nI_clamp (by omega), mIn_64] at c_48
        have b48 : decide (0 ≤ num.toInt ∧ num.toInt ≤ (v.2.2 29 (32 * mRows v t n + ww) - 1).toInt) = true := (zI_ne _).mp c_48
        refine lv_aload_n hx hb dX10_draw_54 rfl (lv_at hl 1 rfl) ?_
        refine mg_drew hx hb hts hin hown hK hP (by decide +kernel) dX10_draw_55 ?_
        refine lv_iload_n hx hb dX10_draw_58 rfl (lv_at hl 2 rfl) ?_
        refine ml_drew hx hb hK hP (hit) dX10_draw_59 ?_
        refine lv_if_eq (tgt := 66) hx hb dX10_draw_60 (by decide) (fun c_60 => ?_) (fun c_60 => ?_)
        · rw [hct] at c_60
          obtain ⟨hroom, hpl⟩ := hdw b4 (by rw [show sI t = tt from hct]; exact c_60)
          refine lv_aload_n hx hb dX10_draw_66 rfl (lv_at hl 1 rfl) ?_
          refine mg_drew hx hb hts hin hown hK hP (by decide +kernel) dX10_draw_67 ?_
          refine lv_iload_n hx hb dX10_draw_70 rfl (lv_at hl 2 rfl) ?_
          refine lv_iconst (v := 1) hx hb dX10_draw_71 (by decide) ?_
          refine ms_drew hx hb hK hP hD hS (hit) dX10_draw_72 (fun H locs hP hD hS => ?_)
          rw [hct, nar1] at hP hD
          refine lv_lload_n hx hb dX10_draw_73 rfl (lv_at hl 4 rfl) ?_
          refine lv_lstore (lv' := [(6, .long num), (5, .int R5), (0, .ref h), (1, .int t), (2, .int w), (3, .long num)]) hx hb dX10_draw_74 hl (by decide) rfl (fun ls hl => ?_)
          refine lv_iload_n hx hb dX10_draw_76 rfl (lv_at hl 4 rfl) ?_
          refine lv_istore (lv' := [(8, .int w), (6, .long num), (5, .int R5), (0, .ref h), (1, .int t), (2, .int w), (3, .long num)]) hx hb dX10_draw_77 hl (by decide) rfl (fun ls hl => ?_)
          refine lv_iconst (v := 0) hx hb dX10_draw_79 (by decide) ?_
          refine lv_istore (lv' := [(9, .int 0), (8, .int w), (6, .long num), (5, .int R5), (0, .ref h), (1, .int t), (2, .int w), (3, .long num)]) hx hb dX10_draw_80 hl (by decide) rfl (fun ls hl => ?_)
          have lp_82 : ∀ (n_82 : Nat) (r : Nat) (u : mS) (x6 : Int64) (x8 : Int32) (x9 : Int32), (r ≤ mRows v t n) → (mRows v t n + 1 ≤ r + n_82) → (x9 = nI r) → (x6 = (dr v t n (mRows v t n) ww num r).1) → (x8 = nI (dr v t n (mRows v t n) ww num r).2.1) → (u = (dr v t n (mRows v t n) ww num r).2.2) → ∀ (H : Heap) (locs : List Loc), va_P D vwCl (mW h a y u) H → va_D A (mW h a y u) → va_S A s.heap H locs → ∀ (ls : Array Slot), lv_has ls 14 [(0, .ref h), (1, .int t), (2, .int w), (5, .int R5), (6, .long x6), (8, .int x8), (9, .int x9)] → W p l e (headSpec wsX10_draw ({ frames := 2, cells := 0, slots := 0, locals := 47 })).room s m ([.ref h, .int t, .int w, .long num] : List Value).toArray below meth c H locs 0 0 (MQ below (va_Qi (fun r v' => (r, v') = spDraw n v t w num) (mEnd D y h a s.heap.size) A) ([.ref h, .int t, .int w, .long num] : List Value).toArray s 0 0 A) (F0 m 82 ls []) := by
            intro n_82
            induction n_82 with
            | zero =>
              intro r u x6 x8 x9 hrle hf ex9 ex6 ex8 hu
              exact absurd hf (by omega)
            | succ n_82 ih_82 =>
              intro r u x6 x8 x9 hrle hf ex9 ex6 ex8 hu H locs hP hD hS ls hl
              have hd27 := dr_27 hcm t n (mRows v t n) ww num r
              have hkd : (∀ i, i ≠ 27 → u.1 i = v.1 i) ∧ (∀ s, s ≠ 23 → s ≠ 25 → s ≠ 26 → u.2.1 s = v.2.1 s) ∧ u.2.2 = v.2.2 := by rw [hu]; exact dr_keep _ _ _ _ _ _ _
              refine lv_iload hx hb dX10_draw_82 (lv_at hl 6 rfl) ?_
              refine lv_iload hx hb dX10_draw_84 (lv_at hl 3 rfl) ?_
              refine lv_icmp_ge (tgt := 198) hx hb dX10_draw_86 (by decide) (fun c_86 => ?_) (fun c_86 => ?_)
              · have hrR : r = mRows v t n := by rw [eR, ex9] at c_86; have := (nI_leI (by omega) (by omega)).mp c_86; omega
                refine lv_iconst (v := 5) hx hb dX10_draw_198 (by decide) ?_
                refine lv_iload_n hx hb dX10_draw_199 rfl (lv_at hl 2 rfl) ?_
                refine lv_imul hx hb dX10_draw_200 ?_
                exact m_reti hx hb hr hlocks hAe hK hP hD hS rfl dX10_draw_201 (by rw [spDraw, if_pos (by rw [okDraw, hcw, b4, b26, b48]; rfl), show sI t = tt from hct, if_pos c_60, hu, hrR, hcw])
              · have hrR : r < mRows v t n := by rw [eR, ex9] at c_86; exact Nat.not_le.mp (fun q => c_86 (nI_le q (by omega)))
                refine lv_iload hx hb dX10_draw_89 (lv_at hl 5 rfl) ?_
                refine lv_if_le (tgt := 198) hx hb dX10_draw_91 (by decide) (fun c_91 => ?_) (fun c_91 => ?_)
                · have hw0 : (dr v t n (mRows v t n) ww num r).2.1 = 0 := by rw [ex8] at c_91; have := (nI_leI (b := 0) (by omega) (by omega)).mp c_91; omega
                  refine lv_iconst (v := 5) hx hb dX10_draw_198 (by decide) ?_
                  refine lv_iload_n hx hb dX10_draw_199 rfl (lv_at hl 2 rfl) ?_
                  refine lv_imul hx hb dX10_draw_200 ?_
                  exact m_reti hx hb hr hlocks hAe hK hP hD hS rfl dX10_draw_201 (by rw [spDraw, if_pos (by rw [okDraw, hcw, b4, b26, b48]; rfl), show sI t = tt from hct, if_pos c_60, hu, hcw, ← dr_stop hw0 (mRows v t n - r), show r + (mRows v t n - r) = mRows v t n by omega])
                · have hw0 : ¬ (dr v t n (mRows v t n) ww num r).2.1 = 0 := fun q => by rw [ex8, q] at c_91; exact c_91 (by decide)
                  have hix2 : (32 : Int32) * (R5 - x9 - 1) + x8 - 1 = nI (32 * (mRows v t n - r - 1) + ((dr v t n (mRows v t n) ww num r).2.1 - 1)) := by rw [eR, ex9, ex8, show (1 : Int32) = nI 1 from rfl, pk_sub (by omega), pk_sub (by omega), ix32, pk_sub (by omega), Nat.add_sub_assoc (by omega)]
                  have hcx2 : (nI (32 * (mRows v t n - r - 1) + ((dr v t n (mRows v t n) ww num r).2.1 - 1))).toNatClampNeg = 32 * (mRows v t n - r - 1) + ((dr v t n (mRows v t n) ww num r).2.1 - 1) := nI_clamp (by omega)
                  refine lv_aload_n hx hb dX10_draw_94 rfl (lv_at hl 0 rfl) ?_
                  refine mg_ways hx hb hts hin hown hK hP (by decide +kernel) dX10_draw_95 ?_
                  refine lv_bipush (v := 32) hx hb dX10_draw_98 (by decide) ?_
                  refine lv_iload hx hb dX10_draw_100 (lv_at hl 3 rfl) ?_
                  refine lv_iload hx hb dX10_draw_102 (lv_at hl 6 rfl) ?_
                  refine lv_isub hx hb dX10_draw_104 ?_
                  refine lv_iconst (v := 1) hx hb dX10_draw_105 (by decide) ?_
                  refine lv_isub hx hb dX10_draw_106 ?_
                  refine lv_imul hx hb dX10_draw_107 ?_
                  refine lv_iload hx hb dX10_draw_108 (lv_at hl 5 rfl) ?_
                  refine lv_iadd hx hb dX10_draw_110 ?_
                  refine lv_iconst (v := 1) hx hb dX10_draw_111 (by decide) ?_
                  refine lv_isub hx hb dX10_draw_112 ?_
                  rw [hix2]
                  refine ml_ways hx hb hK hP (vp_in_nI (by omega) (by omega)) dX10_draw_113 ?_
                  rw [hcx2, show u.2.2 29 = v.2.2 29 by rw [hkd.2.2]]
                  refine lv_topl (fun x10 ex10 => ?_)
                  refine lv_lstore (lv' := [(10, .long x10), (0, .ref h), (1, .int t), (2, .int w), (5, .int R5), (6, .long x6), (8, .int x8), (9, .int x9)]) hx hb dX10_draw_114 hl (by decide) rfl (fun ls hl => ?_)
                  refine lv_lload hx hb dX10_draw_116 (lv_at hl 5 rfl) ?_
                  refine lv_lload hx hb dX10_draw_118 (lv_at hl 0 rfl) ?_
                  refine W.lcmp hx hb dX10_draw_120 ?_
                  refine lv_if_lt (tgt := 134) hx hb dX10_draw_121 (by decide) (fun c_121 => ?_) (fun c_121 => ?_)
                  · have h121 : (dr v t n (mRows v t n) ww num r).1 < drW v (mRows v t n) r (dr v t n (mRows v t n) ww num r).2.1 := by have h9 := (lg_cmp_lt _ _).mp c_121; rw [ex6, ex10] at h9; exact h9
                    obtain ⟨x8_1, ex8_1⟩ : ∃ z : Int32, z = x8 + (-1) := ⟨_, rfl⟩
                    refine lv_iinc (v := x8_1) (lv' := [(8, .int x8_1), (10, .long x10), (0, .ref h), (1, .int t), (2, .int w), (5, .int R5), (6, .long x6), (9, .int x9)]) hx hb dX10_draw_134 hl (k := 6) rfl (by rw [ex8_1]; rfl) (by decide) rfl (fun ls hl => ?_)
                    refine lv_iconst (v := 0) hx hb dX10_draw_137 (by decide) ?_
                    refine lv_istore (lv' := [(12, .int 0), (8, .int x8_1), (10, .long x10), (0, .ref h), (1, .int t), (2, .int w), (5, .int R5), (6, .long x6), (9, .int x9)]) hx hb dX10_draw_138 hl (by decide) rfl (fun ls hl => ?_)
                    have lp_140 : ∀ (n_140 : Nat) (l5 : Nat) (u' : mS) (x12 : Int32), (l5 ≤ 5) → (6 ≤ l5 + n_140) → (x12 = nI l5) → (u' = drL v t n r u l5) → ∀ (H : Heap) (locs : List Loc), va_P D vwCl (mW h a y u') H → va_D A (mW h a y u') → va_S A s.heap H locs → ∀ (ls : Array Slot), lv_has ls 14 [(0, .ref h), (1, .int t), (2, .int w), (5, .int R5), (6, .long x6), (8, .int x8_1), (9, .int x9), (12, .int x12)] → W p l e (headSpec wsX10_draw ({ frames := 2, cells := 0, slots := 0, locals := 47 })).room s m ([.ref h, .int t, .int w, .long num] : List Value).toArray below meth c H locs 0 0 (MQ below (va_Qi (fun r v' => (r, v') = spDraw n v t w num) (mEnd D y h a s.heap.size) A) ([.ref h, .int t, .int w, .long num] : List Value).toArray s 0 0 A) (F0 m 140 ls []) := by
                      intro n_140
                      induction n_140 with
                      | zero =>
                        intro l5 u' x12 hl0 hlf ex12 hu'
                        exact absurd hlf (by omega)
                      | succ n_140 ih_140 =>
                        intro l5 u' x12 hl0 hlf ex12 hu' H locs hP hD hS ls hl
                        refine lv_iload hx hb dX10_draw_140 (lv_at hl 7 rfl) ?_
                        refine lv_iconst (v := 5) hx hb dX10_draw_142 (by decide) ?_
                        refine lv_icmp_ge (tgt := 192) hx hb dX10_draw_143 (by decide) (fun c_143 => ?_) (fun c_143 => ?_)
                        · have hl5 : l5 = 5 := by rw [ex12] at c_143; have := (nI_leI (a := 5) (by omega) (by omega)).mp c_143; omega
                          obtain ⟨x9_2, ex9_2⟩ : ∃ z : Int32, z = x9 + 1 := ⟨_, rfl⟩
                          refine lv_iinc (v := x9_2) (lv' := [(9, .int x9_2), (0, .ref h), (1, .int t), (2, .int w), (5, .int R5), (6, .long x6), (8, .int x8_1), (12, .int x12)]) hx hb dX10_draw_192 hl (k := 6) rfl (by rw [ex9_2]; rfl) (by decide) rfl (fun ls hl => ?_)
                          refine lv_goto (tgt := 82) hx hb dX10_draw_195 (by decide) ?_
                          exact ih_82 (r + 1) _ _ _ _ (by omega) (by omega) (by rw [ex9_2, ex9]; exact nI_1 _) (by rw [dr, if_neg hw0, if_pos h121]; exact ex6) (by rw [dr, if_neg hw0, if_pos h121, ex8_1, ex8]; exact pk_m1' (by omega)) (by rw [dr, if_neg hw0, if_pos h121, hu', hl5, ← hu]) _ _ hP hD hS _ (lv_sub hl [1, 2, 3, 4, 5, 6, 0] rfl)
                        · have hl5 : l5 < 5 := by rw [ex12] at c_143; exact Nat.not_le.mp (fun q => c_143 (nI_le (a := 5) q (by omega)))
                          obtain ⟨c0, hc0, hc1⟩ := hpl l5 hl5 r hrR
                          have hfs : fstn (mAtP v t (nI l5) (nI r)) n 0 < n := by rcases Nat.lt_or_ge (fstn (mAtP v t (nI l5) (nI r)) n 0) n with q | q; exact q; exact absurd hc1 (by have := fstn_none q hc0; rw [this]; decide)
                          have hdc : drC v t n r l5 = nI (fstn (mAtP v t (nI l5) (nI r)) n 0) := fInt_s hfs
                          have hkl := drL_keep v t n r u l5
                          have hu'1 : u'.1 15 = nI n := by rw [hu', hkl.1 15 (by decide), hkd.1 15 (by decide)]; exact hn
                          have hu'2 : mAtP u' t x12 x9 = mAtP v t (nI l5) (nI r) := by rw [ex12, ex9]; exact mAtP_c (by rw [hu', hkl.2.1 16 (by decide) (by decide), hkd.2.1 16 (by decide) (by decide) (by decide)]) (by rw [hu', hkl.2.1 17 (by decide) (by decide), hkd.2.1 17 (by decide) (by decide) (by decide)]) (by rw [hu', hkl.2.1 22 (by decide) (by decide), hkd.2.1 22 (by decide) (by decide) (by decide)]) _ _ _
                          have hu'27 : u'.1 27 = nI (cm + 5 * (ww - (dr v t n (mRows v t n) ww num r).2.1) + l5) := by rw [hu']; exact drL_27 (by rw [hu]; exact hd27.2) _
                          have hi27 : vp_in (u'.1 27) 150 := by rw [hu'27]; exact vp_in_nI (by omega) (by omega)
                          refine lv_aload_n hx hb dX10_draw_146 rfl (lv_at hl 0 rfl) ?_
                          refine lv_iload_n hx hb dX10_draw_147 rfl (lv_at hl 1 rfl) ?_
                          refine lv_iload hx hb dX10_draw_148 (lv_at hl 7 rfl) ?_
                          refine lv_iload hx hb dX10_draw_150 (lv_at hl 6 rfl) ?_
                          refine m_callip (As := [.int t, .int x12, .int x9]) (rest := []) ⟨hx, hb, hml, hown, hts⟩ (ctX10_at l D y h a u' t x12 x9 n hu'1 hn1) (cwV 3 hts gX10_draw_X10_at rfl rfl rfl (by decide +kernel) ⟨Nat.le_of_ble_eq_true rfl, Nat.le_of_ble_eq_true rfl⟩) hK hP hD hS hA rfl hl.1 rfl (Nat.le_of_ble_eq_true rfl) dX10_draw_152 ⟨Nat.zero_le _, Nat.zero_le _⟩ (fun H locs hP hD hS => ?_)
                          refine lv_topi (fun x13 ex13 => ?_)
                          refine lv_istore (lv' := [(13, .int x13), (0, .ref h), (1, .int t), (2, .int w), (5, .int R5), (6, .long x6), (8, .int x8_1), (9, .int x9), (12, .int x12)]) hx hb dX10_draw_155 hl (by decide) rfl (fun ls hl => ?_)
                          rw [hu'2] at ex13
                          have ex13' : x13 = drC v t n r l5 := ex13
                          have hx13 : x13 = nI (fstn (mAtP v t (nI l5) (nI r)) n 0) := by rw [ex13', hdc]
                          refine lv_aload_n hx hb dX10_draw_157 rfl (lv_at hl 1 rfl) ?_
                          refine mg_isChosen hx hb hts hin hown hK hP (by decide +kernel) dX10_draw_158 ?_
                          refine lv_iload hx hb dX10_draw_161 (lv_at hl 0 rfl) ?_
                          refine lv_iconst (v := 1) hx hb dX10_draw_163 (by decide) ?_
                          refine ms_isChosen hx hb hK hP hD hS (by rw [hx13]; exact vp_in_nI (by omega) (by omega)) dX10_draw_164 (fun H locs hP hD hS => ?_)
                          refine lv_aload_n hx hb dX10_draw_165 rfl (lv_at hl 1 rfl) ?_
                          refine mg_chosen hx hb hts hin hown hK hP (by decide +kernel) dX10_draw_166 ?_
                          refine lv_aload_n hx hb dX10_draw_169 rfl (lv_at hl 1 rfl) ?_
                          refine mg_chosenMany hx hb hts hin hown hK hP (by decide +kernel) dX10_draw_170 ?_
                          refine lv_iload hx hb dX10_draw_173 (lv_at hl 0 rfl) ?_
                          refine ms_chosen hx hb hK hP hD hS (hi27) dX10_draw_175 (fun H locs hP hD hS => ?_)
                          refine lv_aload_n hx hb dX10_draw_176 rfl (lv_at hl 1 rfl) ?_
                          refine lv_dup hx hb dX10_draw_177 rfl ?_
                          refine mg_chosenMany hx hb hts hin hown hK hP (by decide +kernel) dX10_draw_178 ?_
                          refine lv_iconst (v := 1) hx hb dX10_draw_181 (by decide) ?_
                          refine lv_iadd hx hb dX10_draw_182 ?_
                          refine mp_chosenMany hx hb hts hin hown hK hP hD hS (by decide +kernel) dX10_draw_183 (fun H locs hP hD hS => ?_)
                          obtain ⟨x12_3, ex12_3⟩ : ∃ z : Int32, z = x12 + 1 := ⟨_, rfl⟩
                          refine lv_iinc (v := x12_3) (lv' := [(12, .int x12_3), (13, .int x13), (0, .ref h), (1, .int t), (2, .int w), (5, .int R5), (6, .long x6), (8, .int x8_1), (9, .int x9)]) hx hb dX10_draw_186 hl (k := 8) rfl (by rw [ex12_3]; rfl) (by decide) rfl (fun ls hl => ?_)
                          refine lv_goto (tgt := 140) hx hb dX10_draw_189 (by decide) ?_
                          exact ih_140 (l5 + 1) _ _ (by omega) (by omega) (by rw [ex12_3, ex12]; exact nI_1 _) (by rw [nar1, ex13', drL, ← hu']; rfl) _ _ hP hD hS _ (lv_sub hl [2, 3, 4, 5, 6, 7, 8, 0] rfl)
                    exact lp_140 6 0 _ _ (Nat.zero_le _) (by omega) rfl rfl _ _ hP hD hS _ (lv_sub hl [3, 4, 5, 6, 7, 1, 8, 0] rfl)
                  · have h121 : ¬ (dr v t n (mRows v t n) ww num r).1 < drW v (mRows v t n) r (dr v t n (mRows v t n) ww num r).2.1 := fun q => by rw [ex6, ex10] at c_121; exact c_121 ((lg_cmp_lt _ _).mpr q)
                    refine lv_lload hx hb dX10_draw_124 (lv_at hl 5 rfl) ?_
                    refine lv_lload hx hb dX10_draw_126 (lv_at hl 0 rfl) ?_
                    refine lv_lsub hx hb dX10_draw_128 ?_
                    refine lv_topl (fun x6_4 ex6_4 => ?_)
                    refine lv_lstore (lv' := [(6, .long x6_4), (10, .long x10), (0, .ref h), (1, .int t), (2, .int w), (5, .int R5), (8, .int x8), (9, .int x9)]) hx hb dX10_draw_129 hl (by decide) rfl (fun ls hl => ?_)
                    refine lv_goto (tgt := 192) hx hb dX10_draw_131 (by decide) ?_
                    obtain ⟨x9_5, ex9_5⟩ : ∃ z : Int32, z = x9 + 1 := ⟨_, rfl⟩
                    refine lv_iinc (v := x9_5) (lv' := [(9, .int x9_5), (6, .long x6_4), (10, .long x10), (0, .ref h), (1, .int t), (2, .int w), (5, .int R5), (8, .int x8)]) hx hb dX10_draw_192 hl (k := 7) rfl (by rw [ex9_5]; rfl) (by decide) rfl (fun ls hl => ?_)
                    refine lv_goto (tgt := 82) hx hb dX10_draw_195 (by decide) ?_
                    exact ih_82 (r + 1) _ _ _ _ (by omega) (by omega) (by rw [ex9_5, ex9]; exact nI_1 _) (by rw [dr, if_neg hw0, if_neg h121, ex6_4, ex6, ex10]; rfl) (by rw [dr, if_neg hw0, if_neg h121]; exact ex8) (by rw [dr, if_neg hw0, if_neg h121]; exact hu) _ _ hP hD hS _ (lv_sub hl [3, 4, 5, 6, 1, 7, 0] rfl)
          exact lp_82 (mRows v t n + 1) 0 _ _ _ _ (Nat.zero_le _) (by omega) rfl rfl etw (by rw [dr, show sI t = tt from hct]) _ _ hP hD hS _ (lv_sub hl [4, 5, 6, 3, 2, 1, 0] rfl)
        · rw [hct] at c_60
          refine lv_bipush (v := (-4)) hx hb dX10_draw_63 (by decide) ?_
          exact m_reti hx hb hr hlocks hAe hK hP hD hS rfl dX10_draw_65 (by rw [spDraw, if_pos (by rw [okDraw, hcw, b4, b26, b48]; rfl), show sI t = tt from hct, if_neg c_60])
      · rw [nI_clamp (by omega), mIn_64] at c_48
        have b48 : decide (0 ≤ num.toInt ∧ num.toInt ≤ (v.2.2 29 (32 * mRows v t n + ww) - 1).toInt) = false := (zI_eq _).mp c_48
        refine lv_bipush (v := (-2)) hx hb dX10_draw_51 (by decide) ?_
        exact m_reti hx hb hr hlocks hAe hK hP hD hS rfl dX10_draw_53 (by rw [spDraw, if_neg (by rw [okDraw, hcw, b48]; simp)])
  · have b4 : isT t = false := (zI_eq _).mp c_4
    refine lv_bipush (v := (-2)) hx hb dX10_draw_7 (by decide) ?_
    exact m_reti hx hb hr hlocks hAe hK hP hD hS rfl dX10_draw_9 (by simp [spDraw, okDraw, b4])
