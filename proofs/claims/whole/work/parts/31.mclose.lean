/-! the reference: close -/
def clG (T : Nat) (ns : Nat → Nat) (v : mS) (K : Nat) : Bool := decide (mDiscs v K 0 (ns K) < 2 * mDiscs v K 1 (ns K)) || (decide (2 * mDiscs v K 1 (ns K) = mDiscs v K 0 (ns K)) && decide (mLaw v (v.1 14) T 3 = 1))
def clWM (T : Nat) (ns : Nat → Nat) (v : mS) (K : Nat) : Int32 × Int32 := if clG T ns v K then (v.2.1 40 K, mLaw v (v.1 14) T (22 + sI (v.2.1 38 K)) + v.2.1 41 K) else if 5 * mDiscs v K 1 (ns K) < mDiscs v K 0 (ns K) then (v.2.1 39 K, mLaw v (v.1 14) T 2) else (-1, 0)
def clW (T : Nat) (ns : Nat → Nat) (v : mS) (K : Nat) : Int32 := if (clWM T ns v K).2 = 0 then -1 else (clWM T ns v K).1
def clA (T : Nat) (ns : Nat → Nat) (v : mS) (K : Nat) : mS := mrU (mrU (mrU (mrU v 36 K 0) 45 K (zI (clG T ns v K))) 46 K (clW T ns v K)) 47 K (clWM T ns v K).2
def clU (T : Nat) (ns : Nat → Nat) (v : mS) (K : Nat) : mS := if clW T ns v K = -1 then clA T ns v K else mLay (clA T ns v K) ns (sI (clW T ns v K)) (clWM T ns v K).2
def clP (u : mS) (K : Nat) (pay : Int32) : Nat → mS
  | 0 => u
  | j + 1 => if u.2.1 34 (25 * K + j) = -1 ∨ ¬ u.2.1 35 (25 * K + j) = 0 then clP u K pay j else miU (mrU (clP u K pay j) 21 (sI (u.2.1 33 (25 * K + j))) ((clP u K pay j).2.1 21 (sI (u.2.1 33 (25 * K + j))) + pay)) 49 ((clP u K pay j).1 49 + pay)
def spClose (T : Nat) (ns : Nat → Nat) (v : mS) (k : Int32) : Int32 × mS := if isK k then (if v.2.1 36 (sI k) = 0 ∨ 0 < mDiscs v (sI k) 2 (ns (sI k)) then (-4, v) else if ¬ clW T ns v (sI k) = -1 ∧ ¬ (v.2.1 20 (sI (clW T ns v (sI k)))).toInt + (clWM T ns v (sI k)).2.toInt ≤ 2000000000 then (-3, v) else (zI (clG T ns v (sI k)), miU (clP (clU T ns v (sI k)) (sI k) (mLaw v (v.1 14) T 1) (ns (sI k))) 48 (v.1 48 + 1))) else (-2, v)
theorem mLay_keep (v : mS) (ns : Nat → Nat) (c : Nat) (q : Int32) : (mLay v ns c q).1 = v.1 ∧ ∀ s, s ≠ 20 → s ≠ 35 → (mLay v ns c q).2.1 s = v.2.1 s := by
  have h := layK_keep (nI c) ns 5 (mrU v 20 c (v.2.1 20 c + q))
  refine ⟨h.1, fun s h1 h2 => (h.2.1 s h2).trans ?_⟩
  show va_up v.2.1 20 _ s = v.2.1 s
  rw [va_up, if_neg h1]
theorem clU_keep (T : Nat) (ns : Nat → Nat) (v : mS) (K : Nat) : (clU T ns v K).1 = v.1 ∧ ∀ s, s ≠ 20 → s ≠ 35 → (clU T ns v K).2.1 s = (clA T ns v K).2.1 s := by
  unfold clU
  split
  · exact ⟨rfl, fun _ _ _ => rfl⟩
  · exact mLay_keep _ _ _ _
theorem clP_keep (u : mS) (K : Nat) (pay : Int32) (j : Nat) : (∀ i, i ≠ 49 → (clP u K pay j).1 i = u.1 i) ∧ ∀ s, s ≠ 21 → (clP u K pay j).2.1 s = u.2.1 s := by
  induction j with
  | zero => exact ⟨fun _ _ => rfl, fun _ _ => rfl⟩
  | succ j ih =>
    rw [clP]
    split
    · exact ih
    · refine ⟨fun i hi => ?_, fun s hs => ?_⟩
      · show upd (clP u K pay j).1 49 _ i = _
        rw [pk_un hi]; exact ih.1 i hi
      · show va_up (clP u K pay j).2.1 21 _ s = _
        rw [va_up, if_neg hs]; exact ih.2 s hs
theorem clW_in {T : Nat} {ns : Nat → Nat} {v : mS} {K : Nat} (h39 : ∃ c, c < 150 ∧ v.2.1 39 K = nI c) (h40 : ∃ c, c < 150 ∧ v.2.1 40 K = nI c) (hw : ¬ clW T ns v K = -1) : ∃ c, c < 150 ∧ clW T ns v K = nI c := by
  unfold clW at hw ⊢
  split
  · rename_i h; rw [if_pos h] at hw; exact absurd rfl hw
  · rename_i h
    rw [if_neg h] at hw
    unfold clWM at hw h ⊢
    split
    · exact h40
    · split
      · exact h39
      · rename_i h1 h2; rw [if_neg h1, if_neg h2] at hw; exact absurd rfl hw
set_option maxHeartbeats 4000000 in
set_option maxRecDepth 100000 in
/-- close(k) -/
theorem ctX10_close (l : Launch) (D : va_G) (y : Nat → ClassId) (h : Nat) (a : Nat → Nat) (v : mS) (k : Int32) (T : Nat) (ns : Nat → Nat) (ht : v.1 12 = nI T) (hT : T ≤ 15) (hns : ∀ k, k < 5 → v.2.1 32 k = nI (ns k) ∧ ns k ≤ 25) (hpk : ∀ k, k < 5 → ¬ v.2.1 36 k = 0 → (∃ q, q < 6 ∧ v.2.1 38 k = nI q) ∧ (∃ c, c < 150 ∧ v.2.1 39 k = nI c) ∧ (∃ c, c < 150 ∧ v.2.1 40 k = nI c)) (hse : ∀ k, k < 5 → ∀ i, i < ns k → ∃ c, c < 150 ∧ v.2.1 33 (25 * k + i) = nI c) : mMi l yX10_close wsX10_close ({ frames := 2, cells := 0, slots := 0, locals := 45 }) D y h a v [.ref h, .int k] (fun r v' => (r, v') = spClose T ns v k) := by
  refine mMi_of (cc := cX10_close) (maxL := 9) (ret := (some .int)) rfl rfl (Nat.le_of_ble_eq_true rfl) ?_
  intro p e s m below meth c A ls hat hAe hl
  obtain ⟨hx, hb, hr, hml, hts, hown, hlocks, hK, hP, hD, hA⟩ := hat
  have hin : ∀ w ∈ wsX100, w ∈ wsX10_close := fun _ h9 => List.mem_cons_of_mem _ (List.mem_append_right _ h9)
  have hl : lv_has ls 9 [(0, .ref h), (1, .int k)] := hl
  have hS : va_S A s.heap s.heap [] := va_S.rf
  refine lv_iload_n hx hb dX10_close_0 rfl (lv_at hl 1 rfl) ?_
  refine s_calli (As := [.int k]) (rest := []) ⟨hx, hb, hml, hown, hts⟩ (ctX10_isCourt l k) (cwS 1 hts gX10_close_X10_isCourt rfl rfl rfl (by decide +kernel) ⟨Nat.le_of_ble_eq_true rfl, Nat.le_of_ble_eq_true rfl⟩) hP hS rfl hl.1 rfl (Nat.le_of_ble_eq_true rfl) dX10_close_1 ⟨Nat.zero_le _, Nat.zero_le _⟩ (fun H locs hP hS => ?_)
  refine lv_if_ne (tgt := 10) hx hb dX10_close_4 (by decide) (fun c_4 => ?_) (fun c_4 => ?_)
  · have b4 : isK k = true := (zI_ne _).mp c_4
    obtain ⟨kk, hk5, etk⟩ := (inR_k 5 (hi := 4) rfl (by omega)).mp b4
    have hck : k.toNatClampNeg = kk := by rw [etk]; exact nI_clamp (by omega)
    have hik : vp_in k 5 := by rw [etk]; exact vp_in_nI hk5 (by omega)
    obtain ⟨hsn, hn25⟩ := hns kk hk5
    have hsk : sI k = kk := hck
    refine lv_aload_n hx hb dX10_close_10 rfl (lv_at hl 0 rfl) ?_
    refine mg_isOpen hx hb hts hin hown hK hP (by decide +kernel) dX10_close_11 ?_
    refine lv_iload_n hx hb dX10_close_14 rfl (lv_at hl 1 rfl) ?_
    refine ml_isOpen hx hb hK hP (hik) dX10_close_15 ?_
    refine lv_if_eq (tgt := 28) hx hb dX10_close_16 (by decide) (fun c_16 => ?_) (fun c_16 => ?_)
    · rw [hck] at c_16
      refine lv_bipush (v := (-4)) hx hb dX10_close_28 (by decide) ?_
      exact m_reti hx hb hr hlocks hAe hK hP hD hS rfl dX10_close_30 (by rw [spClose, if_pos b4, hsk, if_pos (by simp [c_16])])
    · rw [hck] at c_16
      obtain ⟨⟨kq, hkq, ekq⟩, h39, h40⟩ := hpk kk hk5 c_16
      have hskq : sI (v.2.1 38 kk) = kq := by rw [ekq]; exact nI_clamp (by omega)
      have hse1 := hse kk hk5
      refine lv_aload_n hx hb dX10_close_19 rfl (lv_at hl 0 rfl) ?_
      refine lv_iload_n hx hb dX10_close_20 rfl (lv_at hl 1 rfl) ?_
      refine lv_iconst (v := 2) hx hb dX10_close_21 (by decide) ?_
      refine m_callip (As := [.int k, .int 2]) (rest := []) ⟨hx, hb, hml, hown, hts⟩ (etk ▸ ctX10_discsOf l D y h a v kk 2 (ns kk) hk5 hsn hn25) (cwV 2 hts gX10_close_X10_discsOf rfl rfl rfl (by decide +kernel) ⟨Nat.le_of_ble_eq_true rfl, Nat.le_of_ble_eq_true rfl⟩) hK hP hD hS hA rfl hl.1 rfl (Nat.le_of_ble_eq_true rfl) dX10_close_22 ⟨Nat.zero_le _, Nat.zero_le _⟩ (fun H locs hP hD hS => ?_)
      refine lv_if_le (tgt := 31) hx hb dX10_close_25 (by decide) (fun c_25 => ?_) (fun c_25 => ?_)
      · have h25 : ¬ 0 < mDiscs v kk 2 (ns kk) := by have := cnt_le (fun i => dIs v 2 (25 * kk + i)) (ns kk); have h9 := (nI_leI (b := 0) (by unfold mDiscs; omega) (by omega)).mp c_25; omega
        refine lv_aload_n hx hb dX10_close_31 rfl (lv_at hl 0 rfl) ?_
        refine lv_iload_n hx hb dX10_close_32 rfl (lv_at hl 1 rfl) ?_
        refine lv_iconst (v := 0) hx hb dX10_close_33 (by decide) ?_
        refine m_callip (As := [.int k, .int 0]) (rest := []) ⟨hx, hb, hml, hown, hts⟩ (etk ▸ ctX10_discsOf l D y h a v kk 0 (ns kk) hk5 hsn hn25) (cwV 2 hts gX10_close_X10_discsOf rfl rfl rfl (by decide +kernel) ⟨Nat.le_of_ble_eq_true rfl, Nat.le_of_ble_eq_true rfl⟩) hK hP hD hS hA rfl hl.1 rfl (Nat.le_of_ble_eq_true rfl) dX10_close_34 ⟨Nat.zero_le _, Nat.zero_le _⟩ (fun H locs hP hD hS => ?_)
        refine lv_topi (fun x2 ex2 => ?_)
        refine lv_istore_n (lv' := [(2, .int x2), (0, .ref h), (1, .int k)]) hx hb dX10_close_37 rfl hl (by decide) rfl (fun ls hl => ?_)
        refine lv_aload_n hx hb dX10_close_38 rfl (lv_at hl 1 rfl) ?_
        refine lv_iload_n hx hb dX10_close_39 rfl (lv_at hl 2 rfl) ?_
        refine lv_iconst (v := 1) hx hb dX10_close_40 (by decide) ?_
        refine m_callip (As := [.int k, .int 1]) (rest := []) ⟨hx, hb, hml, hown, hts⟩ (etk ▸ ctX10_discsOf l D y h a v kk 1 (ns kk) hk5 hsn hn25) (cwV 2 hts gX10_close_X10_discsOf rfl rfl rfl (by decide +kernel) ⟨Nat.le_of_ble_eq_true rfl, Nat.le_of_ble_eq_true rfl⟩) hK hP hD hS hA rfl hl.1 rfl (Nat.le_of_ble_eq_true rfl) dX10_close_41 ⟨Nat.zero_le _, Nat.zero_le _⟩ (fun H locs hP hD hS => ?_)
        refine lv_topi (fun x3 ex3 => ?_)
        refine lv_istore_n (lv' := [(3, .int x3), (2, .int x2), (0, .ref h), (1, .int k)]) hx hb dX10_close_44 rfl hl (by decide) rfl (fun ls hl => ?_)
        obtain ⟨Na, hNa⟩ : ∃ z, z = mDiscs v kk 0 (ns kk) := ⟨_, rfl⟩
        obtain ⟨Nc, hNc⟩ : ∃ z, z = mDiscs v kk 1 (ns kk) := ⟨_, rfl⟩
        have hNa1 : Na ≤ 25 := by rw [hNa]; have := cnt_le (fun i => dIs v 0 (25 * kk + i)) (ns kk); unfold mDiscs; omega
        have hNc1 : Nc ≤ 25 := by rw [hNc]; have := cnt_le (fun i => dIs v 1 (25 * kk + i)) (ns kk); unfold mDiscs; omega
        rw [← hNa] at ex2
        rw [← hNc] at ex3
        have h2c : (2 : Int32) * x3 = nI (2 * Nc) := by rw [ex3, show (2 : Int32) = nI 2 from rfl, pk_mul]
        have h5c : (5 : Int32) * x3 = nI (5 * Nc) := by rw [ex3, show (5 : Int32) = nI 5 from rfl, pk_mul]
        have j_77 : ∀ z4 : Int32, z4 = zI (clG T ns v kk) → ∀ (H : Heap) (locs : List Loc), va_P D vwCl (mW h a y v) H → va_D A (mW h a y v) → va_S A s.heap H locs → W p l e (headSpec wsX10_close ({ frames := 2, cells := 0, slots := 0, locals := 45 })).room s m ([.ref h, .int k] : List Value).toArray below meth c H locs 0 0 (MQ below (va_Qi (fun r v' => (r, v') = spClose T ns v k) (mEnd D y h a s.heap.size) A) ([.ref h, .int k] : List Value).toArray s 0 0 A) (F0 m 77 ls (.int z4 :: [])) := by
          intro z4 hz4 H locs hP hD hS
          refine lv_istore (lv' := [(4, .int z4), (3, .int x3), (2, .int x2), (0, .ref h), (1, .int k)]) hx hb dX10_close_77 hl (by decide) rfl (fun ls hl => ?_)
          refine lv_iconst (v := (-1)) hx hb dX10_close_79 (by decide) ?_
          refine lv_istore (lv' := [(5, .int (-1)), (4, .int z4), (3, .int x3), (2, .int x2), (0, .ref h), (1, .int k)]) hx hb dX10_close_80 hl (by decide) rfl (fun ls hl => ?_)
          refine lv_iconst (v := 0) hx hb dX10_close_82 (by decide) ?_
          refine lv_istore (lv' := [(6, .int 0), (5, .int (-1)), (4, .int z4), (3, .int x3), (2, .int x2), (0, .ref h), (1, .int k)]) hx hb dX10_close_83 hl (by decide) rfl (fun ls hl => ?_)
          have j_189 : ∀ (w5 : Int32) (w6 : Int32), (w5 = clW T ns v kk) → (w6 = (clWM T ns v kk).2) → (w5 = -1 ∨ (v.2.1 20 (sI (clW T ns v kk))).toInt + (clWM T ns v kk).2.toInt ≤ 2000000000) → ∀ (H : Heap) (locs : List Loc), va_P D vwCl (mW h a y v) H → va_D A (mW h a y v) → va_S A s.heap H locs → ∀ (ls : Array Slot), lv_has ls 9 [(0, .ref h), (1, .int k), (4, .int z4), (5, .int w5), (6, .int w6)] → W p l e (headSpec wsX10_close ({ frames := 2, cells := 0, slots := 0, locals := 45 })).room s m ([.ref h, .int k] : List Value).toArray below meth c H locs 0 0 (MQ below (va_Qi (fun r v' => (r, v') = spClose T ns v k) (mEnd D y h a s.heap.size) A) ([.ref h, .int k] : List Value).toArray s 0 0 A) (F0 m 189 ls []) := by
            intro w5 w6 e5 e6 hok H locs hP hD hS ls hl
            refine lv_aload_n hx hb dX10_close_189 rfl (lv_at hl 0 rfl) ?_
            refine mg_isOpen hx hb hts hin hown hK hP (by decide +kernel) dX10_close_190 ?_
            refine lv_iload_n hx hb dX10_close_193 rfl (lv_at hl 1 rfl) ?_
            refine lv_iconst (v := 0) hx hb dX10_close_194 (by decide) ?_
            refine ms_isOpen hx hb hK hP hD hS (hik) dX10_close_195 (fun H locs hP hD hS => ?_)
            rw [hck, nar0] at hP hD
            refine lv_aload_n hx hb dX10_close_196 rfl (lv_at hl 0 rfl) ?_
            refine mg_verdict hx hb hts hin hown hK hP (by decide +kernel) dX10_close_197 ?_
            refine lv_iload_n hx hb dX10_close_200 rfl (lv_at hl 1 rfl) ?_
            have j_211 : ∀ zv : Int32, zv = zI (clG T ns v kk) → W p l e (headSpec wsX10_close ({ frames := 2, cells := 0, slots := 0, locals := 45 })).room s m ([.ref h, .int k] : List Value).toArray below meth c H locs 0 0 (MQ below (va_Qi (fun r v' => (r, v') = spClose T ns v k) (mEnd D y h a s.heap.size) A) ([.ref h, .int k] : List Value).toArray s 0 0 A) (F0 m 211 ls (.int zv :: [.int k, .ref (a 45)])) := by
              intro zv hzv
              refine ms_verdict hx hb hK hP hD hS (hik) dX10_close_211 (fun H locs hP hD hS => ?_)
              rw [hck, hzv] at hP hD
              refine lv_aload_n hx hb dX10_close_212 rfl (lv_at hl 0 rfl) ?_
              refine mg_debtor hx hb hts hin hown hK hP (by decide +kernel) dX10_close_213 ?_
              refine lv_iload_n hx hb dX10_close_216 rfl (lv_at hl 1 rfl) ?_
              refine lv_iload hx hb dX10_close_217 (lv_at hl 3 rfl) ?_
              refine ms_debtor hx hb hK hP hD hS (hik) dX10_close_219 (fun H locs hP hD hS => ?_)
              rw [hck, e5] at hP hD
              refine lv_aload_n hx hb dX10_close_220 rfl (lv_at hl 0 rfl) ?_
              refine mg_debt hx hb hts hin hown hK hP (by decide +kernel) dX10_close_221 ?_
              refine lv_iload_n hx hb dX10_close_224 rfl (lv_at hl 1 rfl) ?_
              refine lv_iload hx hb dX10_close_225 (lv_at hl 4 rfl) ?_
              refine ms_debt hx hb hK hP hD hS (hik) dX10_close_227 (fun H locs hP hD hS => ?_)
              rw [hck, e6] at hP hD
              have hP : va_P D vwCl (mW h a y (clA T ns v kk)) H := hP
              have hD : va_D A (mW h a y (clA T ns v kk)) := hD
              have hnsA : ∀ k, k < 5 → (clA T ns v kk).2.1 32 k = nI (ns k) ∧ ns k ≤ 25 := hns
              have j_242 : ∀ (u : mS), (u = clU T ns v kk) → ∀ (H : Heap) (locs : List Loc), va_P D vwCl (mW h a y u) H → va_D A (mW h a y u) → va_S A s.heap H locs → ∀ (ls : Array Slot), lv_has ls 9 [(0, .ref h), (1, .int k)] → W p l e (headSpec wsX10_close ({ frames := 2, cells := 0, slots := 0, locals := 45 })).room s m ([.ref h, .int k] : List Value).toArray below meth c H locs 0 0 (MQ below (va_Qi (fun r v' => (r, v') = spClose T ns v k) (mEnd D y h a s.heap.size) A) ([.ref h, .int k] : List Value).toArray s 0 0 A) (F0 m 242 ls []) := by
                intro u hu H locs hP hD hS ls hl
                have hkU1 : u.1 = v.1 := by rw [hu]; exact (clU_keep T ns v kk).1
                have hkU : True ∧ ∀ s, s ≠ 20 → s ≠ 35 → u.2.1 s = (clA T ns v kk).2.1 s := ⟨trivial, by rw [hu]; exact (clU_keep T ns v kk).2⟩
                have htu : u.1 12 = nI T := by rw [hkU1]; exact ht
                refine lv_aload_n hx hb dX10_close_242 rfl (lv_at hl 0 rfl) ?_
                refine lv_aload_n hx hb dX10_close_243 rfl (lv_at hl 0 rfl) ?_
                refine mg_clock hx hb hts hin hown hK hP (by decide +kernel) dX10_close_244 ?_
                refine lv_iconst (v := 1) hx hb dX10_close_247 (by decide) ?_
                refine m_callip (As := [.int (u.1 14), .int 1]) (rest := []) ⟨hx, hb, hml, hown, hts⟩ (ctX10_lawOf l D y h a u (u.1 14) (1) T (by omega) htu hT) (cwV 2 hts gX10_close_X10_lawOf rfl rfl rfl (by decide +kernel) ⟨Nat.le_of_ble_eq_true rfl, Nat.le_of_ble_eq_true rfl⟩) hK hP hD hS hA rfl hl.1 rfl (Nat.le_of_ble_eq_true rfl) dX10_close_248 ⟨Nat.zero_le _, Nat.zero_le _⟩ (fun H locs hP hD hS => ?_)
                refine lv_topi (fun x7 ex7 => ?_)
                refine lv_istore (lv' := [(7, .int x7), (0, .ref h), (1, .int k)]) hx hb dX10_close_251 hl (by decide) rfl (fun ls hl => ?_)
                refine lv_bipush (v := 25) hx hb dX10_close_253 (by decide) ?_
                refine lv_iload_n hx hb dX10_close_255 rfl (lv_at hl 2 rfl) ?_
                refine lv_imul hx hb dX10_close_256 ?_
                refine lv_topi (fun x8_1 ex8_1 => ?_)
                refine lv_istore (lv' := [(8, .int x8_1), (7, .int x7), (0, .ref h), (1, .int k)]) hx hb dX10_close_257 hl (by decide) rfl (fun ls hl => ?_)
                have lp_259 : ∀ (n_259 : Nat) (j : Nat) (u' : mS) (x8 : Int32), (j ≤ ns kk) → (ns kk + 1 ≤ j + n_259) → (x8 = nI (25 * kk + j)) → (u' = clP u kk x7 j) → ∀ (H : Heap) (locs : List Loc), va_P D vwCl (mW h a y u') H → va_D A (mW h a y u') → va_S A s.heap H locs → ∀ (ls : Array Slot), lv_has ls 9 [(0, .ref h), (1, .int k), (7, .int x7), (8, .int x8)] → W p l e (headSpec wsX10_close ({ frames := 2, cells := 0, slots := 0, locals := 45 })).room s m ([.ref h, .int k] : List Value).toArray below meth c H locs 0 0 (MQ below (va_Qi (fun r v' => (r, v') = spClose T ns v k) (mEnd D y h a s.heap.size) A) ([.ref h, .int k] : List Value).toArray s 0 0 A) (F0 m 259 ls []) := by
                  intro n_259
                  induction n_259 with
                  | zero =>
                    intro j u' x8 hj0 hjf ex8 hu'
                    exact absurd hjf (by omega)
                  | succ n_259 ih_259 =>
                    intro j u' x8 hj0 hjf ex8 hu' H locs hP hD hS ls hl
                    have hkP : (∀ i, i ≠ 49 → u'.1 i = u.1 i) ∧ ∀ s, s ≠ 21 → u'.2.1 s = u.2.1 s := by rw [hu']; exact clP_keep _ _ _ _
                    have hs2 : u'.2.1 32 kk = nI (ns kk) := by rw [hkP.2 32 (by decide), hkU.2 32 (by decide) (by decide)]; exact hsn
                    refine lv_iload hx hb dX10_close_259 (lv_at hl 3 rfl) ?_
                    refine lv_bipush (v := 25) hx hb dX10_close_261 (by decide) ?_
                    refine lv_iload_n hx hb dX10_close_263 rfl (lv_at hl 1 rfl) ?_
                    refine lv_imul hx hb dX10_close_264 ?_
                    refine lv_aload_n hx hb dX10_close_265 rfl (lv_at hl 0 rfl) ?_
                    refine mg_sits hx hb hts hin hown hK hP (by decide +kernel) dX10_close_266 ?_
                    refine lv_iload_n hx hb dX10_close_269 rfl (lv_at hl 1 rfl) ?_
                    refine ml_sits hx hb hK hP (hik) dX10_close_270 ?_
                    refine lv_iadd hx hb dX10_close_271 ?_
                    refine lv_icmp_ge (tgt := 333) hx hb dX10_close_272 (by decide) (fun c_272 => ?_) (fun c_272 => ?_)
                    · have hj : j = ns kk := by rw [hck, hs2, etk, ix25, ex8] at c_272; have := (nI_leI (by omega) (by omega)).mp c_272; omega
                      refine lv_aload_n hx hb dX10_close_333 rfl (lv_at hl 0 rfl) ?_
                      refine lv_dup hx hb dX10_close_334 rfl ?_
                      refine mg_closed hx hb hts hin hown hK hP (by decide +kernel) dX10_close_335 ?_
                      refine lv_iconst (v := 1) hx hb dX10_close_338 (by decide) ?_
                      refine lv_iadd hx hb dX10_close_339 ?_
                      refine mp_closed hx hb hts hin hown hK hP hD hS (by decide +kernel) dX10_close_340 (fun H locs hP hD hS => ?_)
                      refine lv_aload_n hx hb dX10_close_343 rfl (lv_at hl 0 rfl) ?_
                      refine mg_verdict hx hb hts hin hown hK hP (by decide +kernel) dX10_close_344 ?_
                      refine lv_iload_n hx hb dX10_close_347 rfl (lv_at hl 1 rfl) ?_
                      refine ml_verdict hx hb hK hP (hik) dX10_close_348 ?_
                      exact m_reti hx hb hr hlocks hAe hK hP hD hS rfl dX10_close_349 (by rw [spClose, if_pos b4, hsk, if_neg (by simp [c_16, h25]), if_neg (by rintro ⟨q1, q2⟩; exact hok.elim (by rw [e5]; exact q1) q2), hck]; rw [show (miU u' 48 (u'.1 48 + 1)).2.1 45 kk = zI (clG T ns v kk) by show u'.2.1 45 kk = _; rw [hkP.2 45 (by decide), hkU.2 45 (by decide) (by decide)]; simp [clA, mrU, va_up, upd], hu', hj, ex7, hkU1, mLaw_c (u := u) (v := v) (hkU.2 11 (by decide) (by decide)) (hkU.2 10 (by decide) (by decide)), (clP_keep _ _ _ _).1 48 (by decide), hkU1, hu])
                    · have hj : j < ns kk := by rw [hck, hs2, etk, ix25, ex8] at c_272; exact Nat.not_le.mp (fun q9 => c_272 (nI_le (by omega) (by omega)))
                      have hc8 : x8.toNatClampNeg = 25 * kk + j := by rw [ex8]; exact nI_clamp (by omega)
                      have hi8 : vp_in x8 125 := by rw [ex8]; exact vp_in_nI (by omega) (by omega)
                      obtain ⟨cs, hcs, ecs⟩ := hse1 j hj
                      have hseat : u'.2.1 33 x8.toNatClampNeg = nI cs := by rw [hc8, hkP.2 33 (by decide), hkU.2 33 (by decide) (by decide)]; exact ecs
                      have hsu : sI (u.2.1 33 (25 * kk + j)) = cs := by rw [hkU.2 33 (by decide) (by decide)]; exact (congrArg sI ecs).trans (nI_clamp (by omega))
                      refine lv_aload_n hx hb dX10_close_275 rfl (lv_at hl 0 rfl) ?_
                      refine mg_discs hx hb hts hin hown hK hP (by decide +kernel) dX10_close_276 ?_
                      refine lv_iload hx hb dX10_close_279 (lv_at hl 3 rfl) ?_
                      refine ml_discs hx hb hK hP (hi8) dX10_close_281 ?_
                      refine lv_iconst (v := (-1)) hx hb dX10_close_282 (by decide) ?_
                      refine lv_icmp_eq (tgt := 327) hx hb dX10_close_283 (by decide) (fun c_283 => ?_) (fun c_283 => ?_)
                      · rw [hc8, hkP.2 34 (by decide)] at c_283
                        obtain ⟨x8_2, ex8_2⟩ : ∃ z : Int32, z = x8 + 1 := ⟨_, rfl⟩
                        refine lv_iinc (v := x8_2) (lv' := [(8, .int x8_2), (0, .ref h), (1, .int k), (7, .int x7)]) hx hb dX10_close_327 hl (k := 3) rfl (by rw [ex8_2]; rfl) (by decide) rfl (fun ls hl => ?_)
                        refine lv_goto (tgt := 259) hx hb dX10_close_330 (by decide) ?_
                        exact ih_259 (j + 1) _ _ (by omega) (by omega) (by rw [ex8_2, ex8]; exact nI_1 _) (by rw [hu', clP, if_pos (Or.inl c_283)]) _ _ hP hD hS _ (lv_sub hl [1, 2, 3, 0] rfl)
                      · rw [hc8, hkP.2 34 (by decide)] at c_283
                        refine lv_aload_n hx hb dX10_close_286 rfl (lv_at hl 0 rfl) ?_
                        refine mg_isStruck hx hb hts hin hown hK hP (by decide +kernel) dX10_close_287 ?_
                        refine lv_iload hx hb dX10_close_290 (lv_at hl 3 rfl) ?_
                        refine ml_isStruck hx hb hK hP (hi8) dX10_close_292 ?_
                        refine lv_if_eq (tgt := 299) hx hb dX10_close_293 (by decide) (fun c_293 => ?_) (fun c_293 => ?_)
                        · rw [hc8, hkP.2 35 (by decide)] at c_293
                          refine lv_aload_n hx hb dX10_close_299 rfl (lv_at hl 0 rfl) ?_
                          refine mg_earned hx hb hts hin hown hK hP (by decide +kernel) dX10_close_300 ?_
                          refine lv_aload_n hx hb dX10_close_303 rfl (lv_at hl 0 rfl) ?_
                          refine mg_seats hx hb hts hin hown hK hP (by decide +kernel) dX10_close_304 ?_
                          refine lv_iload hx hb dX10_close_307 (lv_at hl 3 rfl) ?_
                          refine ml_seats hx hb hK hP (hi8) dX10_close_309 ?_
                          refine lv_dup2_11 hx hb dX10_close_310 rfl rfl ?_
                          refine ml_earned hx hb hK hP (by rw [hseat]; exact vp_in_nI hcs (by omega)) dX10_close_311 ?_
                          refine lv_iload hx hb dX10_close_312 (lv_at hl 2 rfl) ?_
                          refine lv_iadd hx hb dX10_close_314 ?_
                          refine ms_earned hx hb hK hP hD hS (by rw [hseat]; exact vp_in_nI hcs (by omega)) dX10_close_315 (fun H locs hP hD hS => ?_)
                          refine lv_aload_n hx hb dX10_close_316 rfl (lv_at hl 0 rfl) ?_
                          refine lv_dup hx hb dX10_close_317 rfl ?_
                          refine mg_paidAll hx hb hts hin hown hK hP (by decide +kernel) dX10_close_318 ?_
                          refine lv_iload hx hb dX10_close_321 (lv_at hl 2 rfl) ?_
                          refine lv_iadd hx hb dX10_close_323 ?_
                          refine mp_paidAll hx hb hts hin hown hK hP hD hS (by decide +kernel) dX10_close_324 (fun H locs hP hD hS => ?_)
                          obtain ⟨x8_3, ex8_3⟩ : ∃ z : Int32, z = x8 + 1 := ⟨_, rfl⟩
                          refine lv_iinc (v := x8_3) (lv' := [(8, .int x8_3), (0, .ref h), (1, .int k), (7, .int x7)]) hx hb dX10_close_327 hl (k := 3) rfl (by rw [ex8_3]; rfl) (by decide) rfl (fun ls hl => ?_)
                          refine lv_goto (tgt := 259) hx hb dX10_close_330 (by decide) ?_
                          exact ih_259 (j + 1) _ _ (by omega) (by omega) (by rw [ex8_3, ex8]; exact nI_1 _) (by rw [hseat, nI_clamp (by omega), clP, if_neg (by simp [c_283, c_293]), hsu, ← hu']; rfl) _ _ hP hD hS _ (lv_sub hl [1, 2, 3, 0] rfl)
                        · rw [hc8, hkP.2 35 (by decide)] at c_293
                          refine lv_goto (tgt := 327) hx hb dX10_close_296 (by decide) ?_
                          obtain ⟨x8_4, ex8_4⟩ : ∃ z : Int32, z = x8 + 1 := ⟨_, rfl⟩
                          refine lv_iinc (v := x8_4) (lv' := [(8, .int x8_4), (0, .ref h), (1, .int k), (7, .int x7)]) hx hb dX10_close_327 hl (k := 3) rfl (by rw [ex8_4]; rfl) (by decide) rfl (fun ls hl => ?_)
                          refine lv_goto (tgt := 259) hx hb dX10_close_330 (by decide) ?_
                          exact ih_259 (j + 1) _ _ (by omega) (by omega) (by rw [ex8_4, ex8]; exact nI_1 _) (by rw [hu', clP, if_pos (Or.inr c_293)]) _ _ hP hD hS _ (lv_sub hl [1, 2, 3, 0] rfl)
                exact lp_259 (ns kk + 1) 0 _ _ (Nat.zero_le _) (by omega) (by rw [ex8_1, etk, show (25 : Int32) = nI 25 from rfl, pk_mul]; rfl) rfl _ _ hP hD hS _ (lv_sub hl [2, 3, 1, 0] rfl)
              refine lv_iload hx hb dX10_close_228 (lv_at hl 3 rfl) ?_
              refine lv_iconst (v := (-1)) hx hb dX10_close_230 (by decide) ?_
              refine lv_icmp_eq (tgt := 242) hx hb dX10_close_231 (by decide) (fun c_231 => ?_) (fun c_231 => ?_)
              · exact j_242 _ (by rw [clU, if_pos (by rw [← e5]; exact c_231)]) _ _ hP hD hS _ (lv_sub hl [0, 1] rfl)
              · obtain ⟨cw, hcw, ecw⟩ := clW_in (T := T) (ns := ns) h39 h40 (by rw [← e5]; exact c_231)
                have hscw : sI (clW T ns v kk) = cw := by rw [ecw]; exact nI_clamp (by omega)
                have hw5 : w5 = nI cw := by rw [e5, ecw]
                refine lv_aload_n hx hb dX10_close_234 rfl (lv_at hl 0 rfl) ?_
                refine lv_iload hx hb dX10_close_235 (lv_at hl 3 rfl) ?_
                refine lv_iload hx hb dX10_close_237 (lv_at hl 4 rfl) ?_
                refine m_callv (As := [.int w5, .int w6]) (rest := []) ⟨hx, hb, hml, hown, hts⟩ (hw5 ▸ ctX10_lay l D y h a (clA T ns v kk) cw w6 ns hcw hnsA) (cwV 2 hts gX10_close_X10_lay rfl rfl rfl (by decide +kernel) ⟨Nat.le_of_ble_eq_true rfl, Nat.le_of_ble_eq_true rfl⟩) hK hP hD hS hA rfl hl.1 rfl (Nat.le_of_ble_eq_true rfl) dX10_close_239 ⟨Nat.zero_le _, Nat.zero_le _⟩ (fun v239 H locs hq hP hD hS => ?_)
                exact j_242 _ (by rw [hq, clU, if_neg (by rw [← e5]; exact c_231), hscw, e6]) _ _ hP hD hS _ (lv_sub hl [0, 1] rfl)
            refine lv_iload hx hb dX10_close_201 (lv_at hl 2 rfl) ?_
            refine lv_if_eq (tgt := 210) hx hb dX10_close_203 (by decide) (fun c_203 => ?_) (fun c_203 => ?_)
            · refine lv_iconst (v := 0) hx hb dX10_close_210 (by decide) ?_
              exact j_211 _ (by rw [hz4] at c_203; rw [(zI_eq _).mp c_203]; rfl)
            · refine lv_iconst (v := 1) hx hb dX10_close_206 (by decide) ?_
              refine lv_goto (tgt := 211) hx hb dX10_close_207 (by decide) ?_
              exact j_211 _ (by rw [hz4] at c_203; rw [(zI_ne _).mp c_203]; rfl)
          have j_161 : ∀ (w5 : Int32) (w6 : Int32), (w5 = clW T ns v kk) → (w6 = (clWM T ns v kk).2) → ∀ (H : Heap) (locs : List Loc), va_P D vwCl (mW h a y v) H → va_D A (mW h a y v) → va_S A s.heap H locs → ∀ (ls : Array Slot), lv_has ls 9 [(0, .ref h), (1, .int k), (4, .int z4), (5, .int w5), (6, .int w6)] → W p l e (headSpec wsX10_close ({ frames := 2, cells := 0, slots := 0, locals := 45 })).room s m ([.ref h, .int k] : List Value).toArray below meth c H locs 0 0 (MQ below (va_Qi (fun r v' => (r, v') = spClose T ns v k) (mEnd D y h a s.heap.size) A) ([.ref h, .int k] : List Value).toArray s 0 0 A) (F0 m 161 ls []) := by
            intro w5 w6 e5 e6 H locs hP hD hS ls hl
            refine lv_iload hx hb dX10_close_161 (lv_at hl 3 rfl) ?_
            refine lv_iconst (v := (-1)) hx hb dX10_close_163 (by decide) ?_
            refine lv_icmp_eq (tgt := 189) hx hb dX10_close_164 (by decide) (fun c_164 => ?_) (fun c_164 => ?_)
            · exact j_189 _ _ e5 e6 (Or.inl c_164) _ _ hP hD hS _ (lv_sub hl [0, 1, 2, 3, 4] rfl)
            · obtain ⟨cw, hcw, ecw⟩ := clW_in (T := T) (ns := ns) h39 h40 (by rw [← e5]; exact c_164)
              have hcw5 : w5.toNatClampNeg = cw := by rw [e5, ecw]; exact nI_clamp (by omega)
              have hiw5 : vp_in w5 150 := by rw [e5, ecw]; exact vp_in_nI hcw (by omega)
              have hscw : sI (clW T ns v kk) = cw := by rw [ecw]; exact nI_clamp (by omega)
              refine lv_aload_n hx hb dX10_close_167 rfl (lv_at hl 0 rfl) ?_
              refine mg_owes hx hb hts hin hown hK hP (by decide +kernel) dX10_close_168 ?_
              refine lv_iload hx hb dX10_close_171 (lv_at hl 3 rfl) ?_
              refine ml_owes hx hb hK hP (hiw5) dX10_close_173 ?_
              refine lv_i2l hx hb dX10_close_174 rfl ?_
              refine lv_iload hx hb dX10_close_175 (lv_at hl 4 rfl) ?_
              refine lv_i2l hx hb dX10_close_177 rfl ?_
              refine lv_ladd hx hb dX10_close_178 ?_
              refine lv_ldc2 (v := 2000000000) hx hb hown (hts (.constantLong RX10 245 (2000000000)) (by decide +kernel)) dX10_close_179 ?_
              refine W.lcmp hx hb dX10_close_182 ?_
              refine lv_if_le (tgt := 189) hx hb dX10_close_183 (by decide) (fun c_183 => ?_) (fun c_183 => ?_)
              · have b183 : (v.2.1 20 cw).toInt + w6.toInt ≤ 2000000000 := by have h9 := Int64.le_iff_toInt_le.mp ((lg_cmp_le _ _).mp c_183); rw [add64, hcw5] at h9; exact h9
                exact j_189 _ _ e5 e6 (Or.inr (by rw [hscw, ← e6]; exact b183)) _ _ hP hD hS _ (lv_sub hl [0, 1, 2, 3, 4] rfl)
              · have b183 : ¬ (v.2.1 20 cw).toInt + w6.toInt ≤ 2000000000 := fun q9 => c_183 ((lg_cmp_le _ _).mpr (Int64.le_iff_toInt_le.mpr (by rw [add64, hcw5]; exact q9)))
                refine lv_bipush (v := (-3)) hx hb dX10_close_186 (by decide) ?_
                exact m_reti hx hb hr hlocks hAe hK hP hD hS rfl dX10_close_188 (by rw [spClose, if_pos b4, hsk, if_neg (by simp [c_16, h25]), if_pos ⟨by rw [← e5]; exact c_164, by rw [hscw, ← e6]; exact b183⟩])
          have j_153 : ∀ (x5 : Int32) (x6 : Int32), ((x5, x6) = clWM T ns v kk) → ∀ (H : Heap) (locs : List Loc), va_P D vwCl (mW h a y v) H → va_D A (mW h a y v) → va_S A s.heap H locs → ∀ (ls : Array Slot), lv_has ls 9 [(0, .ref h), (1, .int k), (4, .int z4), (5, .int x5), (6, .int x6)] → W p l e (headSpec wsX10_close ({ frames := 2, cells := 0, slots := 0, locals := 45 })).room s m ([.ref h, .int k] : List Value).toArray below meth c H locs 0 0 (MQ below (va_Qi (fun r v' => (r, v') = spClose T ns v k) (mEnd D y h a s.heap.size) A) ([.ref h, .int k] : List Value).toArray s 0 0 A) (F0 m 153 ls []) := by
            intro x5 x6 e56 H locs hP hD hS ls hl
            refine lv_iload hx hb dX10_close_153 (lv_at hl 4 rfl) ?_
            refine lv_if_ne (tgt := 161) hx hb dX10_close_155 (by decide) (fun c_155 => ?_) (fun c_155 => ?_)
            · exact j_161 _ _ (by rw [clW, if_neg (by rw [← e56]; exact c_155), ← e56]) (by rw [← e56]) _ _ hP hD hS _ (lv_sub hl [0, 1, 2, 3, 4] rfl)
            · refine lv_iconst (v := (-1)) hx hb dX10_close_158 (by decide) ?_
              refine lv_istore (lv' := [(5, .int (-1)), (0, .ref h), (1, .int k), (4, .int z4), (6, .int x6)]) hx hb dX10_close_159 hl (by decide) rfl (fun ls hl => ?_)
              exact j_161 _ _ (by rw [clW, if_pos (by rw [← e56]; exact c_155)]) (by rw [← e56]) _ _ hP hD hS _ (lv_sub hl [1, 2, 3, 0, 4] rfl)
          refine lv_iload hx hb dX10_close_85 (lv_at hl 2 rfl) ?_
          refine lv_if_eq (tgt := 127) hx hb dX10_close_87 (by decide) (fun c_87 => ?_) (fun c_87 => ?_)
          · have h87 : clG T ns v kk = false := (zI_eq _).mp (by rw [← hz4]; exact c_87)
            refine lv_iconst (v := 5) hx hb dX10_close_127 (by decide) ?_
            refine lv_iload_n hx hb dX10_close_128 rfl (lv_at hl 3 rfl) ?_
            refine lv_imul hx hb dX10_close_129 ?_
            refine lv_iload_n hx hb dX10_close_130 rfl (lv_at hl 4 rfl) ?_
            refine lv_icmp_ge (tgt := 153) hx hb dX10_close_131 (by decide) (fun c_131 => ?_) (fun c_131 => ?_)
            · have h131 : ¬ 5 * Nc < Na := by rw [h5c, ex2] at c_131; have := (nI_leI (by omega) (by omega)).mp c_131; omega
              exact j_153 _ _ (by rw [clWM, if_neg (by simp [h87]), ← hNa, ← hNc, if_neg h131]) _ _ hP hD hS _ (lv_sub hl [5, 6, 2, 1, 0] rfl)
            · have h131 : 5 * Nc < Na := by rw [h5c, ex2] at c_131; exact Nat.not_le.mp (fun q => c_131 (nI_le q (by omega)))
              refine lv_aload_n hx hb dX10_close_134 rfl (lv_at hl 5 rfl) ?_
              refine mg_accuser hx hb hts hin hown hK hP (by decide +kernel) dX10_close_135 ?_
              refine lv_iload_n hx hb dX10_close_138 rfl (lv_at hl 6 rfl) ?_
              refine ml_accuser hx hb hK hP (hik) dX10_close_139 ?_
              refine lv_topi (fun x5 ex5 => ?_)
              refine lv_istore (lv' := [(5, .int x5), (6, .int 0), (4, .int z4), (3, .int x3), (2, .int x2), (0, .ref h), (1, .int k)]) hx hb dX10_close_140 hl (by decide) rfl (fun ls hl => ?_)
              refine lv_aload_n hx hb dX10_close_142 rfl (lv_at hl 5 rfl) ?_
              refine lv_aload_n hx hb dX10_close_143 rfl (lv_at hl 5 rfl) ?_
              refine mg_clock hx hb hts hin hown hK hP (by decide +kernel) dX10_close_144 ?_
              refine lv_iconst (v := 2) hx hb dX10_close_147 (by decide) ?_
              refine m_callip (As := [.int (v.1 14), .int 2]) (rest := []) ⟨hx, hb, hml, hown, hts⟩ (ctX10_lawOf l D y h a v (v.1 14) (2) T (by omega) ht hT) (cwV 2 hts gX10_close_X10_lawOf rfl rfl rfl (by decide +kernel) ⟨Nat.le_of_ble_eq_true rfl, Nat.le_of_ble_eq_true rfl⟩) hK hP hD hS hA rfl hl.1 rfl (Nat.le_of_ble_eq_true rfl) dX10_close_148 ⟨Nat.zero_le _, Nat.zero_le _⟩ (fun H locs hP hD hS => ?_)
              refine lv_topi (fun x6 ex6 => ?_)
              refine lv_istore (lv' := [(6, .int x6), (5, .int x5), (4, .int z4), (3, .int x3), (2, .int x2), (0, .ref h), (1, .int k)]) hx hb dX10_close_151 hl (by decide) rfl (fun ls hl => ?_)
              exact j_153 _ _ (by rw [clWM, if_neg (by simp [h87]), ← hNa, ← hNc, if_pos h131, ex5, ex6, hck]) _ _ hP hD hS _ (lv_sub hl [5, 6, 2, 1, 0] rfl)
          · have h87 : clG T ns v kk = true := (zI_ne _).mp (by rw [← hz4]; exact c_87)
            refine lv_aload_n hx hb dX10_close_90 rfl (lv_at hl 5 rfl) ?_
            refine mg_accused hx hb hts hin hown hK hP (by decide +kernel) dX10_close_91 ?_
            refine lv_iload_n hx hb dX10_close_94 rfl (lv_at hl 6 rfl) ?_
            refine ml_accused hx hb hK hP (hik) dX10_close_95 ?_
            refine lv_topi (fun x5 ex5 => ?_)
            refine lv_istore (lv' := [(5, .int x5), (6, .int 0), (4, .int z4), (3, .int x3), (2, .int x2), (0, .ref h), (1, .int k)]) hx hb dX10_close_96 hl (by decide) rfl (fun ls hl => ?_)
            refine lv_aload_n hx hb dX10_close_98 rfl (lv_at hl 5 rfl) ?_
            refine lv_aload_n hx hb dX10_close_99 rfl (lv_at hl 5 rfl) ?_
            refine mg_clock hx hb hts hin hown hK hP (by decide +kernel) dX10_close_100 ?_
            refine lv_bipush (v := 22) hx hb dX10_close_103 (by decide) ?_
            refine lv_aload_n hx hb dX10_close_105 rfl (lv_at hl 5 rfl) ?_
            refine mg_kind hx hb hts hin hown hK hP (by decide +kernel) dX10_close_106 ?_
            refine lv_iload_n hx hb dX10_close_109 rfl (lv_at hl 6 rfl) ?_
            refine ml_kind hx hb hK hP (hik) dX10_close_110 ?_
            refine lv_iadd hx hb dX10_close_111 ?_
            rw [hck, ekq, show (22 : Int32) + nI kq = nI (22 + kq) by rw [show (22 : Int32) = nI 22 from rfl, nI_add]]
            refine m_callip (As := [.int (v.1 14), .int (nI (22 + kq))]) (rest := []) ⟨hx, hb, hml, hown, hts⟩ (ctX10_lawOf l D y h a v (v.1 14) (22 + kq) T (by omega) ht hT) (cwV 2 hts gX10_close_X10_lawOf rfl rfl rfl (by decide +kernel) ⟨Nat.le_of_ble_eq_true rfl, Nat.le_of_ble_eq_true rfl⟩) hK hP hD hS hA rfl hl.1 rfl (Nat.le_of_ble_eq_true rfl) dX10_close_112 ⟨Nat.zero_le _, Nat.zero_le _⟩ (fun H locs hP hD hS => ?_)
            refine lv_aload_n hx hb dX10_close_115 rfl (lv_at hl 5 rfl) ?_
            refine mg_sum hx hb hts hin hown hK hP (by decide +kernel) dX10_close_116 ?_
            refine lv_iload_n hx hb dX10_close_119 rfl (lv_at hl 6 rfl) ?_
            refine ml_sum hx hb hK hP (hik) dX10_close_120 ?_
            refine lv_iadd hx hb dX10_close_121 ?_
            refine lv_topi (fun x6 ex6 => ?_)
            refine lv_istore (lv' := [(6, .int x6), (5, .int x5), (4, .int z4), (3, .int x3), (2, .int x2), (0, .ref h), (1, .int k)]) hx hb dX10_close_122 hl (by decide) rfl (fun ls hl => ?_)
            refine lv_goto (tgt := 153) hx hb dX10_close_124 (by decide) ?_
            exact j_153 _ _ (by rw [clWM, if_pos h87, hskq, ex5, ex6, hck]) _ _ hP hD hS _ (lv_sub hl [5, 6, 2, 1, 0] rfl)
        refine lv_iconst (v := 2) hx hb dX10_close_45 (by decide) ?_
        refine lv_iload_n hx hb dX10_close_46 rfl (lv_at hl 0 rfl) ?_
        refine lv_imul hx hb dX10_close_47 ?_
        refine lv_iload_n hx hb dX10_close_48 rfl (lv_at hl 1 rfl) ?_
        refine lv_icmp_gt (tgt := 72) hx hb dX10_close_49 (by decide) (fun c_49 => ?_) (fun c_49 => ?_)
        · have h49 : Na < 2 * Nc := by rw [h2c, ex2] at c_49; exact (nI_ltI (by omega) (by omega)).mp c_49
          refine lv_iconst (v := 1) hx hb dX10_close_72 (by decide) ?_
          refine lv_goto (tgt := 77) hx hb dX10_close_73 (by decide) ?_
          exact j_77 _ (by simp [zI, clG, ← hNa, ← hNc, h49]) _ _ hP hD hS
        · have h49 : ¬ Na < 2 * Nc := fun q => by rw [h2c, ex2] at c_49; exact c_49 ((nI_ltI (by omega) (by omega)).mpr q)
          refine lv_iconst (v := 2) hx hb dX10_close_52 (by decide) ?_
          refine lv_iload_n hx hb dX10_close_53 rfl (lv_at hl 0 rfl) ?_
          refine lv_imul hx hb dX10_close_54 ?_
          refine lv_iload_n hx hb dX10_close_55 rfl (lv_at hl 1 rfl) ?_
          refine lv_icmp_ne (tgt := 76) hx hb dX10_close_56 (by decide) (fun c_56 => ?_) (fun c_56 => ?_)
          · have h56 : ¬ 2 * Nc = Na := fun q => by rw [h2c, ex2, q] at c_56; exact c_56 rfl
            refine lv_iconst (v := 0) hx hb dX10_close_76 (by decide) ?_
            exact j_77 _ (by simp [zI, clG, ← hNa, ← hNc, h49, h56]) _ _ hP hD hS
          · have h56 : 2 * Nc = Na := by rw [h2c, ex2] at c_56; exact (nI_eq (by omega) (by omega)).mp c_56
            refine lv_aload_n hx hb dX10_close_59 rfl (lv_at hl 2 rfl) ?_
            refine lv_aload_n hx hb dX10_close_60 rfl (lv_at hl 2 rfl) ?_
            refine mg_clock hx hb hts hin hown hK hP (by decide +kernel) dX10_close_61 ?_
            refine lv_iconst (v := 3) hx hb dX10_close_64 (by decide) ?_
            refine m_callip (As := [.int (v.1 14), .int 3]) (rest := []) ⟨hx, hb, hml, hown, hts⟩ (ctX10_lawOf l D y h a v (v.1 14) (3) T (by omega) ht hT) (cwV 2 hts gX10_close_X10_lawOf rfl rfl rfl (by decide +kernel) ⟨Nat.le_of_ble_eq_true rfl, Nat.le_of_ble_eq_true rfl⟩) hK hP hD hS hA rfl hl.1 rfl (Nat.le_of_ble_eq_true rfl) dX10_close_65 ⟨Nat.zero_le _, Nat.zero_le _⟩ (fun H locs hP hD hS => ?_)
            refine lv_iconst (v := 1) hx hb dX10_close_68 (by decide) ?_
            refine lv_icmp_ne (tgt := 76) hx hb dX10_close_69 (by decide) (fun c_69 => ?_) (fun c_69 => ?_)
            · refine lv_iconst (v := 0) hx hb dX10_close_76 (by decide) ?_
              exact j_77 _ (by simp [zI, clG, ← hNa, ← hNc, h49, h56, c_69]) _ _ hP hD hS
            · refine lv_iconst (v := 1) hx hb dX10_close_72 (by decide) ?_
              refine lv_goto (tgt := 77) hx hb dX10_close_73 (by decide) ?_
              exact j_77 _ (by simp [zI, clG, ← hNa, ← hNc, h49, h56, c_69]) _ _ hP hD hS
      · have h25 : 0 < mDiscs v kk 2 (ns kk) := by have := cnt_le (fun i => dIs v 2 (25 * kk + i)) (ns kk); exact Nat.not_le.mp (fun q => c_25 (nI_le (b := 0) q (by omega)))
        refine lv_bipush (v := (-4)) hx hb dX10_close_28 (by decide) ?_
        exact m_reti hx hb hr hlocks hAe hK hP hD hS rfl dX10_close_30 (by rw [spClose, if_pos b4, hsk, if_pos (by simp [c_16, h25])])
  · have b4 : isK k = false := (zI_eq _).mp c_4
    refine lv_bipush (v := (-2)) hx hb dX10_close_7 (by decide) ?_
    exact m_reti hx hb hr hlocks hAe hK hP hD hS rfl dX10_close_9 (by simp [spClose, b4])
