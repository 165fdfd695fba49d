/-! bits of longs (out of laws/BITS.to-paste) -/
theorem wb_tb (n : Nat) : (lN n).toBitVec = BitVec.ofNat 64 n := rfl
theorem wb_inj {a b : Int64} (h : a.toBitVec = b.toBitVec) : a = b := Int64.toBitVec_inj.mp h
theorem wb_tn {n : Nat} (h : n < 2 ^ 64) : (lN n).toBitVec.toNat = n := by rw [wb_tb, BitVec.toNat_ofNat, Nat.mod_eq_of_lt h]
theorem wb_of (x : Int64) : ∃ n, n < 2 ^ 64 ∧ x = lN n := ⟨x.toBitVec.toNat, x.toBitVec.isLt, wb_inj (by rw [wb_tb]; simp)⟩
theorem wb_of32 (x : Int32) : ∃ n, n < 2 ^ 32 ∧ x = nI n := ⟨x.toBitVec.toNat, x.toBitVec.isLt, Int32.toBitVec_inj.mp (by show _ = BitVec.ofNat 32 _; simp)⟩
theorem wb_c : ∀ k, k < 64 → ((nI k).toInt64 &&& 63) = lN k := by decide +kernel
theorem wb_cu : ∀ k, k < 64 → ((nI k).toInt64.toUInt64 &&& Int64.toUInt64 63) = UInt64.ofNat k := by decide +kernel
theorem wb_sm : ∀ k, k < 64 → (BitVec.ofNat 64 k).smod 64 = BitVec.ofNat 64 k := by decide +kernel
theorem wb_pw {a b : Nat} (h : a ≤ b) : 2 ^ b = 2 ^ a * 2 ^ (b - a) := by rw [← Nat.pow_add]; congr 1; omega
theorem wb_lt2 {a b : Nat} (h : a < b) : 2 ^ a < 2 ^ b := Nat.pow_lt_pow_right (by decide) h
theorem wb_mod (n : Nat) : lN n = lN (n % 2 ^ 64) := wb_inj (by rw [wb_tb, wb_tb]; apply BitVec.eq_of_toNat_eq; rw [BitVec.toNat_ofNat, BitVec.toNat_ofNat, Nat.mod_mod])
theorem wb_shr {n k : Nat} (hn : n < 2 ^ 64) (hk : k < 64) : ((lN n).toUInt64 >>> ((nI k).toInt64.toUInt64 &&& Int64.toUInt64 63)).toInt64 = lN (n / 2 ^ k) := by
  rw [wb_cu k hk]
  apply wb_inj
  apply BitVec.eq_of_toNat_eq
  show ((lN n).toUInt64 >>> UInt64.ofNat k).toNat = (BitVec.ofNat 64 _).toNat
  have h1 : (UInt64.ofNat k).toNat = k := by
    show (BitVec.ofNat 64 k).toNat = k
    rw [BitVec.toNat_ofNat, Nat.mod_eq_of_lt (by omega)]
  have h2 : (lN n).toUInt64.toNat = n := wb_tn hn
  rw [UInt64.toNat_shiftRight, h1, h2, Nat.mod_eq_of_lt hk, Nat.shiftRight_eq_div_pow, BitVec.toNat_ofNat, Nat.mod_eq_of_lt (Nat.lt_of_le_of_lt (Nat.div_le_self _ _) hn)]
theorem wb_shl (n : Nat) {k : Nat} (hk : k < 64) : lN n <<< ((nI k).toInt64 &&& 63) = lN (n * 2 ^ k) := by
  rw [wb_c k hk]
  apply wb_inj
  rw [Int64.toBitVec_shiftLeft, wb_tb, wb_tb, wb_tb, wb_sm k hk]
  apply BitVec.eq_of_toNat_eq
  rw [BitVec.shiftLeft_eq', BitVec.toNat_shiftLeft, BitVec.toNat_ofNat, BitVec.toNat_ofNat, BitVec.toNat_ofNat, Nat.mod_eq_of_lt (show k < 2 ^ 64 by omega), Nat.shiftLeft_eq, Nat.mul_mod, Nat.mod_mod, ← Nat.mul_mod]
theorem wb_and {a b : Nat} (ha : a < 2 ^ 64) (hb : b < 2 ^ 64) : lN a &&& lN b = lN (a &&& b) := by
  apply wb_inj
  rw [Int64.toBitVec_and, wb_tb, wb_tb, wb_tb]
  apply BitVec.eq_of_toNat_eq
  rw [BitVec.toNat_and, BitVec.toNat_ofNat, BitVec.toNat_ofNat, BitVec.toNat_ofNat, Nat.mod_eq_of_lt ha, Nat.mod_eq_of_lt hb, Nat.mod_eq_of_lt (Nat.and_lt_two_pow _ hb)]
theorem wb_or {a b : Nat} (ha : a < 2 ^ 64) (hb : b < 2 ^ 64) : lN a ||| lN b = lN (a ||| b) := by
  apply wb_inj
  rw [Int64.toBitVec_or, wb_tb, wb_tb, wb_tb]
  apply BitVec.eq_of_toNat_eq
  rw [BitVec.toNat_or, BitVec.toNat_ofNat, BitVec.toNat_ofNat, BitVec.toNat_ofNat, Nat.mod_eq_of_lt ha, Nat.mod_eq_of_lt hb, Nat.mod_eq_of_lt (Nat.or_lt_two_pow ha hb)]
theorem wb_mask {n k : Nat} (hn : n < 2 ^ 64) (hk : k < 64) : lN n &&& lN (2 ^ k - 1) = lN (n % 2 ^ k) := by
  rw [wb_and hn (by have := wb_lt2 hk; omega), Nat.and_two_pow_sub_one_eq_mod]
theorem wb_a1 {n : Nat} (hn : n < 2 ^ 64) : lN n &&& 1 = lN (n % 2) := wb_mask (k := 1) hn (by decide)
theorem wb_bit {n k : Nat} (hn : n < 2 ^ 64) (hk : k < 64) : ((lN n).toUInt64 >>> ((nI k).toInt64.toUInt64 &&& Int64.toUInt64 63)).toInt64 &&& 1 = lN (n / 2 ^ k % 2) := by
  rw [wb_shr hn hk, wb_a1 (Nat.lt_of_le_of_lt (Nat.div_le_self _ _) hn)]
/-! the reference: bribed -/
def bsm (N r : Nat) : Nat → Nat
  | 0 => 0
  | l + 1 => bsm N r l + N / 2 ^ (5 * r + l) % 2
def bbr (N r : Nat) : Nat := if r < 12 then bsm N r 5 else 0
theorem bsm_le (N r l : Nat) : bsm N r l ≤ l := by
  induction l with
  | zero => exact Nat.le_refl _
  | succ l ih => rw [bsm]; have := Nat.mod_lt (N / 2 ^ (5 * r + l)) (show 0 < 2 by decide); omega
theorem bbr_le (N r : Nat) : bbr N r ≤ 5 := by
  unfold bbr
  split
  · exact bsm_le N r 5
  · exact Nat.zero_le _
def cf (bs : Nat → Nat) : Nat → Nat → Nat → Nat
  | 0, k, n => if k = 0 ∧ n = 0 then 1 else 0
  | r + 1, k, n => cf bs r k n + (if 0 < k ∧ bs r ≤ n then cf bs r (k - 1) (n - bs r) else 0)
def smF (f : Nat → Nat) (m : Nat) : Nat → Nat
  | 0 => 0
  | d + 1 => smF f m d + f (m + d)
def uNat (x : Int64) : Nat := x.toBitVec.toNat
theorem uNat_lt (x : Int64) : uNat x < 2 ^ 64 := x.toBitVec.isLt
theorem uNat_l (x : Int64) : x = lN (uNat x) := wb_inj (by rw [wb_tb]; simp [uNat])
def mKL (u v : mS) : Prop := u.1 = v.1 ∧ u.2.1 = v.2.1 ∧ ∀ s, s ≠ 30 → u.2.2 s = v.2.2 s
theorem mKL.rf (v : mS) : mKL v v := ⟨rfl, rfl, fun _ _ => rfl⟩
theorem mKL.put {u v : mS} (h : mKL u v) (i : Nat) (x : Int64) : mKL (mlU u 30 i x) v := ⟨h.1, h.2.1, fun s hs => by show va_up u.2.2 30 _ s = _; rw [va_up, if_neg hs]; exact h.2.2 s hs⟩
theorem ml30 (u : mS) (i j : Nat) (x : Int64) : (mlU u 30 i x).2.2 30 j = if j = i then x else u.2.2 30 j := by
  show va_up u.2.2 30 _ 30 j = _
  rw [va_up, if_pos rfl]; rfl
def okBr (n : Nat) (v : mS) (t w : Int32) (bits : Int64) (m9 : Int32) : Bool := isT t && (inR 0 (mRows v t n) w && (decide (0 ≤ m9) && decide (uNat bits / 2 ^ (5 * min (mRows v t n) 12) = 0)))
def spBribed (n : Nat) (v : mS) (t w : Int32) (bits : Int64) (m9 : Int32) : Int64 := if okBr n v t w bits m9 then lN (smF (cf (bbr (uNat bits)) (mRows v t n) (sI w)) (sI m9) (61 - sI m9)) else -2
theorem ix61 (k j : Nat) : (61 : Int32) * nI k + nI j = nI (61 * k + j) := by rw [show (61 : Int32) = nI 61 from rfl, pk_mul, nI_add]
theorem i61 {k n k' n' : Nat} (h : n ≤ 60) (h' : n' ≤ 60) (e : 61 * k + n = 61 * k' + n') : k = k' ∧ n = n' := by omega
theorem br_step {u : mS} {N r ww k p9 : Nat} (hk4 : k ≤ ww) (hk0 : 0 < k) (hp1 : p9 ≤ 61) (hpb : bbr N r < p9) (hJ : ∀ k' n', k' ≤ ww → n' ≤ 60 → u.2.2 30 (61 * k' + n') = lN (if k < k' ∨ (k' = k ∧ p9 ≤ n') then cf (bbr N) (r + 1) k' n' else cf (bbr N) r k' n')) :
    ∀ k' n', k' ≤ ww → n' ≤ 60 → (mlU u 30 (61 * k + (p9 - 1)) (u.2.2 30 (61 * k + (p9 - 1)) + u.2.2 30 (61 * (k - 1) + (p9 - 1 - bbr N r)))).2.2 30 (61 * k' + n') = lN (if k < k' ∨ (k' = k ∧ p9 - 1 ≤ n') then cf (bbr N) (r + 1) k' n' else cf (bbr N) r k' n') := by
  intro k' n' hk' hn'
  have h1 := hJ k (p9 - 1) hk4 (by omega)
  have h2 := hJ (k - 1) (p9 - 1 - bbr N r) (by omega) (by omega)
  rw [if_neg (by omega)] at h1
  rw [if_neg (by omega)] at h2
  rw [ml30]
  by_cases e : 61 * k' + n' = 61 * k + (p9 - 1)
  · obtain ⟨e1, e2⟩ := i61 hn' (by omega) e
    rw [if_pos e, h1, h2, lN_add, if_pos (Or.inr ⟨e1, by omega⟩), cf, e1, e2, if_pos ⟨hk0, by omega⟩]
  · rw [if_neg e, hJ k' n' hk' hn']
    by_cases e1 : k < k'
    · rw [if_pos (Or.inl e1), if_pos (Or.inl e1)]
    · by_cases e2 : k' = k ∧ p9 ≤ n'
      · rw [if_pos (Or.inr e2), if_pos (Or.inr ⟨e2.1, by omega⟩)]
      · rw [if_neg (by omega), if_neg (by omega)]
theorem lN_0 {x : Int64} : (x = 0) ↔ uNat x = 0 := ⟨fun h => by rw [h]; rfl, fun h => by rw [uNat_l x, h]; rfl⟩
set_option maxHeartbeats 4000000 in
set_option maxRecDepth 100000 in
/-- bribed -/
theorem ctX10_bribed (l : Launch) (D : va_G) (y : Nat → ClassId) (h : Nat) (a : Nat → Nat) (v : mS) (t w : Int32) (bits : Int64) (m9 : Int32) (n : Nat) (hn : v.1 15 = nI n) (hn1 : n ≤ 150) : mMl l yX10_bribed wsX10_bribed ({ frames := 2, cells := 0, slots := 0, locals := 47 }) D y h a v [.ref h, .int t, .int w, .long bits, .int m9] (fun r v' => r = spBribed n v t w bits m9 ∧ mKL v' v) := by
  refine mMl_of (cc := cX10_bribed) (maxL := 12) (ret := (some .long)) rfl rfl (Nat.le_of_ble_eq_true rfl) ?_
  intro p e s m below meth c A ls hat hAe hl
  obtain ⟨hx, hb, hr, hml, hts, hown, hlocks, hK, hP, hD, hA⟩ := hat
  have hin : ∀ w ∈ wsX100, w ∈ wsX10_bribed := fun _ h9 => List.mem_cons_of_mem _ (List.mem_append_right _ h9)
  have hl : lv_has ls 12 [(0, .ref h), (1, .int t), (2, .int w), (3, .long bits), (5, .int m9)] := hl
  have hS : va_S A s.heap s.heap [] := va_S.rf
  have hrl := mRows_le v t n
  obtain ⟨N, hNe⟩ : ∃ z, uNat bits = z := ⟨_, rfl⟩
  have hN64 : N < 2 ^ 64 := by rw [← hNe]; exact uNat_lt bits
  have hbN : bits = lN N := by rw [← hNe]; exact uNat_l bits
  have hbb := bbr_le N
  refine lv_iload_n hx hb dX10_bribed_0 rfl (lv_at hl 1 rfl) ?_
  refine s_calli (As := [.int t]) (rest := []) ⟨hx, hb, hml, hown, hts⟩ (ctX10_isTribe l t) (cwS 1 hts gX10_bribed_X10_isTribe rfl rfl rfl (by decide +kernel) ⟨Nat.le_of_ble_eq_true rfl, Nat.le_of_ble_eq_true rfl⟩) hP hS rfl hl.1 rfl (Nat.le_of_ble_eq_true rfl) dX10_bribed_1 ⟨Nat.zero_le _, Nat.zero_le _⟩ (fun H locs hP hS => ?_)
  refine lv_if_ne (tgt := 11) hx hb dX10_bribed_4 (by decide) (fun c_4 => ?_) (fun c_4 => ?_)
  · have b4 : isT t = true := (zI_ne _).mp c_4
    refine lv_aload_n hx hb dX10_bribed_11 rfl (lv_at hl 0 rfl) ?_
    refine lv_iload_n hx hb dX10_bribed_12 rfl (lv_at hl 1 rfl) ?_
    refine m_callip (As := [.int t]) (rest := []) ⟨hx, hb, hml, hown, hts⟩ (ctX10_rowsOf l D y h a v t n hn hn1) (cwV 1 hts gX10_bribed_X10_rowsOf rfl rfl rfl (by decide +kernel) ⟨Nat.le_of_ble_eq_true rfl, Nat.le_of_ble_eq_true rfl⟩) hK hP hD hS hA rfl hl.1 rfl (Nat.le_of_ble_eq_true rfl) dX10_bribed_13 ⟨Nat.zero_le _, Nat.zero_le _⟩ (fun H locs hP hD hS => ?_)
    refine lv_topi (fun R6 eR6 => ?_)
    refine lv_istore (lv' := [(6, .int R6), (0, .ref h), (1, .int t), (2, .int w), (3, .long bits), (5, .int m9)]) hx hb dX10_bribed_16 hl (by decide) rfl (fun ls hl => ?_)
    have j_32 : ∀ z7 : Int32, z7 = nI (min (mRows v t n) 12) → W p l e (headSpec wsX10_bribed ({ frames := 2, cells := 0, slots := 0, locals := 47 })).room s m ([.ref h, .int t, .int w, .long bits, .int m9] : List Value).toArray below meth c H locs 0 0 (MQ below (va_Ql (fun r v' => r = spBribed n v t w bits m9 ∧ mKL v' v) (mEnd D y h a s.heap.size) A) ([.ref h, .int t, .int w, .long bits, .int m9] : List Value).toArray s 0 0 A) (F0 m 32 ls (.int z7 :: [])) := by
      intro z7 hz7
      have hshr : ((bits.toUInt64 >>> (((5 : Int32) * z7).toInt64.toUInt64 &&& Int64.toUInt64 63)).toInt64) = lN (uNat bits / 2 ^ (5 * min (mRows v t n) 12)) := by rw [show (5 : Int32) * z7 = nI (5 * min (mRows v t n) 12) by rw [hz7, show (5 : Int32) = nI 5 from rfl, pk_mul]]; rw [hbN, show uNat (lN N) = N from wb_tn hN64]; exact wb_shr hN64 (by omega)
      refine lv_istore (lv' := [(7, .int z7), (6, .int R6), (0, .ref h), (1, .int t), (2, .int w), (3, .long bits), (5, .int m9)]) hx hb dX10_bribed_32 hl (by decide) rfl (fun ls hl => ?_)
      refine lv_iload_n hx hb dX10_bribed_34 rfl (lv_at hl 4 rfl) ?_
      refine lv_i2l hx hb dX10_bribed_35 rfl ?_
      refine lv_lconst (v := 0) hx hb dX10_bribed_36 (by decide) ?_
      refine lv_iload hx hb dX10_bribed_37 (lv_at hl 1 rfl) ?_
      refine lv_i2l hx hb dX10_bribed_39 rfl ?_
      refine s_calli (As := [.long (w.toInt64), .long 0, .long _]) (rest := []) ⟨hx, hb, hml, hown, hts⟩ (ctX10_in l _ _ _) (cwS 3 hts gX10_bribed_X10_in rfl rfl rfl (by decide +kernel) ⟨Nat.le_of_ble_eq_true rfl, Nat.le_of_ble_eq_true rfl⟩) hP hS rfl hl.1 rfl (Nat.le_of_ble_eq_true rfl) dX10_bribed_40 ⟨Nat.zero_le _, Nat.zero_le _⟩ (fun H locs hP hS => ?_)
      refine lv_if_eq (tgt := 62) hx hb dX10_bribed_43 (by decide) (fun c_43 => ?_) (fun c_43 => ?_)
      · rw [eR6, mIn_R, Int32.toInt_toInt64, nI_toInt (by omega)] at c_43
        have b43 : inR 0 (mRows v t n) w = false := (zI_eq _).mp c_43
        refine lv_ldc2 (v := (-2)) hx hb hown (hts (.constantLong RX10 269 (-2)) (by decide +kernel)) dX10_bribed_62 ?_
        exact m_retl hx hb hr hlocks hAe hK hP hD hS dX10_bribed_65 (⟨by rw [spBribed, if_neg (by simp [okBr, b43])], mKL.rf v⟩)
      · rw [eR6, mIn_R, Int32.toInt_toInt64, nI_toInt (by omega)] at c_43
        have b43 : inR 0 (mRows v t n) w = true := (zI_ne _).mp c_43
        obtain ⟨ww, hww, etw⟩ := (inR_k ((mRows v t n) + 1) (hi := (mRows v t n)) (by omega) (by omega)).mp b43
        have hcw : sI w = ww := by rw [etw]; exact nI_clamp (by omega)
        refine lv_iload hx hb dX10_bribed_46 (lv_at hl 6 rfl) ?_
        refine lv_if_lt (tgt := 62) hx hb dX10_bribed_48 (by decide) (fun c_48 => ?_) (fun c_48 => ?_)
        · refine lv_ldc2 (v := (-2)) hx hb hown (hts (.constantLong RX10 269 (-2)) (by decide +kernel)) dX10_bribed_62 ?_
          exact m_retl hx hb hr hlocks hAe hK hP hD hS dX10_bribed_65 (⟨by rw [spBribed, if_neg (by simp [okBr, Int32.not_le.mpr c_48])], mKL.rf v⟩)
        · have hm0 : 0 ≤ m9 := Int32.not_lt.mp c_48
          obtain ⟨mm, hmm, etm⟩ := nI_of c_48
          have hcm : sI m9 = mm := by rw [etm]; exact nI_clamp hmm
          refine lv_lload_n hx hb dX10_bribed_51 rfl (lv_at hl 5 rfl) ?_
          refine lv_iconst (v := 5) hx hb dX10_bribed_52 (by decide) ?_
          refine lv_iload hx hb dX10_bribed_53 (lv_at hl 0 rfl) ?_
          refine lv_imul hx hb dX10_bribed_55 ?_
          refine lv_lushr hx hb dX10_bribed_56 rfl ?_
          refine lv_lconst (v := 0) hx hb dX10_bribed_57 (by decide) ?_
          refine W.lcmp hx hb dX10_bribed_58 ?_
          refine lv_if_eq (tgt := 66) hx hb dX10_bribed_59 (by decide) (fun c_59 => ?_) (fun c_59 => ?_)
          · have b59 : uNat bits / 2 ^ (5 * min (mRows v t n) 12) = 0 := by have h9 := (lg_cmp_eq _ _).mp c_59; rw [hshr] at h9; have := lN_0.mp h9; rwa [show uNat (lN (uNat bits / 2 ^ (5 * min (mRows v t n) 12))) = uNat bits / 2 ^ (5 * min (mRows v t n) 12) from wb_tn (Nat.lt_of_le_of_lt (Nat.div_le_self _ _) (uNat_lt bits))] at this
            refine lv_iconst (v := 0) hx hb dX10_bribed_66 (by decide) ?_
            refine lv_istore (lv' := [(8, .int 0), (7, .int z7), (6, .int R6), (0, .ref h), (1, .int t), (2, .int w), (3, .long bits), (5, .int m9)]) hx hb dX10_bribed_67 hl (by decide) rfl (fun ls hl => ?_)
            have lp_69 : ∀ (n_69 : Nat) (i : Nat) (u : mS) (x8 : Int32), (i ≤ 1891) → (1892 ≤ i + n_69) → (x8 = nI i) → (mKL u v) → (∀ j, j < i → u.2.2 30 j = 0) → ∀ (H : Heap) (locs : List Loc), va_P D vwCl (mW h a y u) H → va_D A (mW h a y u) → va_S A s.heap H locs → ∀ (ls : Array Slot), lv_has ls 12 [(0, .ref h), (1, .int t), (2, .int w), (3, .long bits), (5, .int m9), (6, .int R6), (8, .int x8)] → W p l e (headSpec wsX10_bribed ({ frames := 2, cells := 0, slots := 0, locals := 47 })).room s m ([.ref h, .int t, .int w, .long bits, .int m9] : List Value).toArray below meth c H locs 0 0 (MQ below (va_Ql (fun r v' => r = spBribed n v t w bits m9 ∧ mKL v' v) (mEnd D y h a s.heap.size) A) ([.ref h, .int t, .int w, .long bits, .int m9] : List Value).toArray s 0 0 A) (F0 m 69 ls []) := by
              intro n_69
              induction n_69 with
              | zero =>
                intro i u x8 hi0 hif ex8 hku hz
                exact absurd hif (by omega)
              | succ n_69 ih_69 =>
                intro i u x8 hi0 hif ex8 hku hz H locs hP hD hS ls hl
                refine lv_iload hx hb dX10_bribed_69 (lv_at hl 6 rfl) ?_
                refine lv_sipush (v := 1891) hx hb dX10_bribed_71 (by decide) ?_
                refine lv_icmp_ge (tgt := 91) hx hb dX10_bribed_74 (by decide) (fun c_74 => ?_) (fun c_74 => ?_)
                · have hi9 : i = 1891 := by rw [ex8] at c_74; have := (nI_leI (a := 1891) (by omega) (by omega)).mp c_74; omega
                  refine lv_aload_n hx hb dX10_bribed_91 rfl (lv_at hl 0 rfl) ?_
                  refine mg_having hx hb hts hin hown hK hP (by decide +kernel) dX10_bribed_92 ?_
                  refine lv_iconst (v := 0) hx hb dX10_bribed_95 (by decide) ?_
                  refine lv_lconst (v := 1) hx hb dX10_bribed_96 (by decide) ?_
                  refine ms_having hx hb hK hP hD hS (vp_in_nI (n := 0) (N := 1891) (by decide) (by decide)) dX10_bribed_97 (fun H locs hP hD hS => ?_)
                  refine lv_iconst (v := 0) hx hb dX10_bribed_98 (by decide) ?_
                  refine lv_istore (lv' := [(8, .int 0), (0, .ref h), (1, .int t), (2, .int w), (3, .long bits), (5, .int m9), (6, .int R6)]) hx hb dX10_bribed_99 hl (by decide) rfl (fun ls hl => ?_)
                  have lp_101 : ∀ (n_101 : Nat) (r : Nat) (u : mS) (x8 : Int32), (r ≤ (mRows v t n)) → ((mRows v t n) + 1 ≤ r + n_101) → (x8 = nI r) → (mKL u v) → (∀ k' n', k' ≤ ww → n' ≤ 60 → u.2.2 30 (61 * k' + n') = lN (cf (bbr N) r k' n')) → ∀ (H : Heap) (locs : List Loc), va_P D vwCl (mW h a y u) H → va_D A (mW h a y u) → va_S A s.heap H locs → ∀ (ls : Array Slot), lv_has ls 12 [(0, .ref h), (1, .int t), (2, .int w), (3, .long bits), (5, .int m9), (6, .int R6), (8, .int x8)] → W p l e (headSpec wsX10_bribed ({ frames := 2, cells := 0, slots := 0, locals := 47 })).room s m ([.ref h, .int t, .int w, .long bits, .int m9] : List Value).toArray below meth c H locs 0 0 (MQ below (va_Ql (fun r v' => r = spBribed n v t w bits m9 ∧ mKL v' v) (mEnd D y h a s.heap.size) A) ([.ref h, .int t, .int w, .long bits, .int m9] : List Value).toArray s 0 0 A) (F0 m 101 ls []) := by
                    intro n_101
                    induction n_101 with
                    | zero =>
                      intro r u x8 hrle hrf ex8 hku hJ
                      exact absurd hrf (by omega)
                    | succ n_101 ih_101 =>
                      intro r u x8 hrle hrf ex8 hku hJ H locs hP hD hS ls hl
                      refine lv_iload hx hb dX10_bribed_101 (lv_at hl 6 rfl) ?_
                      refine lv_iload hx hb dX10_bribed_103 (lv_at hl 5 rfl) ?_
                      refine lv_icmp_ge (tgt := 221) hx hb dX10_bribed_105 (by decide) (fun c_105 => ?_) (fun c_105 => ?_)
                      · have hrR : r = (mRows v t n) := by rw [eR6, ex8] at c_105; have := (nI_leI (by omega) (by omega)).mp c_105; omega
                        refine lv_lconst (v := 0) hx hb dX10_bribed_221 (by decide) ?_
                        refine lv_lstore (lv' := [(8, .long 0), (0, .ref h), (1, .int t), (2, .int w), (3, .long bits), (5, .int m9), (6, .int R6)]) hx hb dX10_bribed_222 hl (by decide) rfl (fun ls hl => ?_)
                        refine lv_iload hx hb dX10_bribed_224 (lv_at hl 5 rfl) ?_
                        refine lv_istore (lv' := [(10, .int m9), (8, .long 0), (0, .ref h), (1, .int t), (2, .int w), (3, .long bits), (5, .int m9), (6, .int R6)]) hx hb dX10_bribed_226 hl (by decide) rfl (fun ls hl => ?_)
                        have lp_228 : ∀ (n_228 : Nat) (d9 : Nat) (s8 : Int64) (x10 : Int32), (d9 = 0 ∨ mm + d9 ≤ 61) → (62 ≤ d9 + n_228) → (x10 = nI (mm + d9)) → (s8 = lN (smF (cf (bbr N) (mRows v t n) ww) mm d9)) → ∀ (H : Heap) (locs : List Loc), va_P D vwCl (mW h a y u) H → va_D A (mW h a y u) → va_S A s.heap H locs → ∀ (ls : Array Slot), lv_has ls 12 [(0, .ref h), (2, .int w), (8, .long s8), (10, .int x10)] → W p l e (headSpec wsX10_bribed ({ frames := 2, cells := 0, slots := 0, locals := 47 })).room s m ([.ref h, .int t, .int w, .long bits, .int m9] : List Value).toArray below meth c H locs 0 0 (MQ below (va_Ql (fun r v' => r = spBribed n v t w bits m9 ∧ mKL v' v) (mEnd D y h a s.heap.size) A) ([.ref h, .int t, .int w, .long bits, .int m9] : List Value).toArray s 0 0 A) (F0 m 228 ls []) := by
                          intro n_228
                          induction n_228 with
                          | zero =>
                            intro d9 s8 x10 hd0 hdf ex10 es8
                            exact absurd hdf (by omega)
                          | succ n_228 ih_228 =>
                            intro d9 s8 x10 hd0 hdf ex10 es8 H locs hP hD hS ls hl
                            have hd9 : 60 < mm + d9 → 61 - mm = d9 := by omega
                            refine lv_iload hx hb dX10_bribed_228 (lv_at hl 3 rfl) ?_
                            refine lv_bipush (v := 60) hx hb dX10_bribed_230 (by decide) ?_
                            refine lv_icmp_gt (tgt := 258) hx hb dX10_bribed_232 (by decide) (fun c_232 => ?_) (fun c_232 => ?_)
                            · have hd : 60 < mm + d9 := by rw [ex10] at c_232; exact (nI_ltI (a := 60) (by omega) (by omega)).mp c_232
                              refine lv_lload hx hb dX10_bribed_258 (lv_at hl 2 rfl) ?_
                              exact m_retl hx hb hr hlocks hAe hK hP hD hS dX10_bribed_260 (⟨by rw [spBribed, if_pos (by simp [okBr, b4, b43, hm0, b59]), hcm, hcw, es8, hNe, hd9 hd], hku⟩)
                            · have hd : mm + d9 ≤ 60 := by rw [ex10] at c_232; exact Nat.not_lt.mp (fun q => c_232 (nI_lt (a := 60) q (by omega)))
                              have hia : (61 : Int32) * w + x10 = nI (61 * ww + (mm + d9)) := by rw [etw, ex10, ix61]
                              have hca : (nI (61 * ww + (mm + d9))).toNatClampNeg = 61 * ww + (mm + d9) := nI_clamp (by omega)
                              refine lv_lload hx hb dX10_bribed_235 (lv_at hl 2 rfl) ?_
                              refine lv_aload_n hx hb dX10_bribed_237 rfl (lv_at hl 0 rfl) ?_
                              refine mg_having hx hb hts hin hown hK hP (by decide +kernel) dX10_bribed_238 ?_
                              refine lv_bipush (v := 61) hx hb dX10_bribed_241 (by decide) ?_
                              refine lv_iload_n hx hb dX10_bribed_243 rfl (lv_at hl 1 rfl) ?_
                              refine lv_imul hx hb dX10_bribed_244 ?_
                              refine lv_iload hx hb dX10_bribed_245 (lv_at hl 3 rfl) ?_
                              refine lv_iadd hx hb dX10_bribed_247 ?_
                              rw [hia]
                              refine ml_having hx hb hK hP (vp_in_nI (by omega) (by omega)) dX10_bribed_248 ?_
                              refine lv_ladd hx hb dX10_bribed_249 ?_
                              refine lv_topl (fun s8n es8n => ?_)
                              refine lv_lstore (lv' := [(8, .long s8n), (0, .ref h), (2, .int w), (10, .int x10)]) hx hb dX10_bribed_250 hl (by decide) rfl (fun ls hl => ?_)
                              obtain ⟨x10_1, ex10_1⟩ : ∃ z : Int32, z = x10 + 1 := ⟨_, rfl⟩
                              refine lv_iinc (v := x10_1) (lv' := [(10, .int x10_1), (8, .long s8n), (0, .ref h), (2, .int w)]) hx hb dX10_bribed_252 hl (k := 3) rfl (by rw [ex10_1]; rfl) (by decide) rfl (fun ls hl => ?_)
                              refine lv_goto (tgt := 228) hx hb dX10_bribed_255 (by decide) ?_
                              exact ih_228 (d9 + 1) _ _ (Or.inr (by omega)) (by omega) (by rw [ex10_1, ex10]; exact nI_1 _) (by rw [es8n, hca, hJ ww (mm + d9) (Nat.le_refl _) (by omega), es8, hrR, lN_add]; rfl) _ _ hP hD hS _ (lv_sub hl [2, 3, 1, 0] rfl)
                        exact lp_228 62 0 _ _ (Or.inl rfl) (by omega) (by rw [etm]; rfl) rfl _ _ hP hD hS _ (lv_sub hl [2, 4, 1, 0] rfl)
                      · have hrR : r < (mRows v t n) := by rw [eR6, ex8] at c_105; exact Nat.not_le.mp (fun q => c_105 (nI_le q (by omega)))
                        have j_150 : ∀ (x9 : Int32), (x9 = nI (bbr N r)) → ∀ (H : Heap) (locs : List Loc), va_P D vwCl (mW h a y u) H → va_D A (mW h a y u) → va_S A s.heap H locs → ∀ (ls : Array Slot), lv_has ls 12 [(0, .ref h), (1, .int t), (2, .int w), (3, .long bits), (5, .int m9), (6, .int R6), (8, .int x8), (9, .int x9)] → W p l e (headSpec wsX10_bribed ({ frames := 2, cells := 0, slots := 0, locals := 47 })).room s m ([.ref h, .int t, .int w, .long bits, .int m9] : List Value).toArray below meth c H locs 0 0 (MQ below (va_Ql (fun r v' => r = spBribed n v t w bits m9 ∧ mKL v' v) (mEnd D y h a s.heap.size) A) ([.ref h, .int t, .int w, .long bits, .int m9] : List Value).toArray s 0 0 A) (F0 m 150 ls []) := by
                          intro x9 e9 H locs hP hD hS ls hl
                          have hb5 := hbb r
                          refine lv_iload_n hx hb dX10_bribed_150 rfl (lv_at hl 2 rfl) ?_
                          refine lv_istore (lv' := [(10, .int w), (0, .ref h), (1, .int t), (2, .int w), (3, .long bits), (5, .int m9), (6, .int R6), (8, .int x8), (9, .int x9)]) hx hb dX10_bribed_151 hl (by decide) rfl (fun ls hl => ?_)
                          have lp_153 : ∀ (n_153 : Nat) (k : Nat) (u4 : mS) (x10 : Int32), (k ≤ ww) → (k + 1 ≤ n_153) → (x10 = nI k) → (mKL u4 v) → (∀ k' n', k' ≤ ww → n' ≤ 60 → u4.2.2 30 (61 * k' + n') = lN (if k < k' then cf (bbr N) (r + 1) k' n' else cf (bbr N) r k' n')) → ∀ (H : Heap) (locs : List Loc), va_P D vwCl (mW h a y u4) H → va_D A (mW h a y u4) → va_S A s.heap H locs → ∀ (ls : Array Slot), lv_has ls 12 [(0, .ref h), (1, .int t), (2, .int w), (3, .long bits), (5, .int m9), (6, .int R6), (8, .int x8), (9, .int x9), (10, .int x10)] → W p l e (headSpec wsX10_bribed ({ frames := 2, cells := 0, slots := 0, locals := 47 })).room s m ([.ref h, .int t, .int w, .long bits, .int m9] : List Value).toArray below meth c H locs 0 0 (MQ below (va_Ql (fun r v' => r = spBribed n v t w bits m9 ∧ mKL v' v) (mEnd D y h a s.heap.size) A) ([.ref h, .int t, .int w, .long bits, .int m9] : List Value).toArray s 0 0 A) (F0 m 153 ls []) := by
                            intro n_153
                            induction n_153 with
                            | zero =>
                              intro k u4 x10 hk4 hkf ex10k hku4 hJ4
                              exact absurd hkf (by omega)
                            | succ n_153 ih_153 =>
                              intro k u4 x10 hk4 hkf ex10k hku4 hJ4 H locs hP hD hS ls hl
                              refine lv_iload hx hb dX10_bribed_153 (lv_at hl 8 rfl) ?_
                              refine lv_if_le (tgt := 215) hx hb dX10_bribed_155 (by decide) (fun c_155 => ?_) (fun c_155 => ?_)
                              · have hk0 : k = 0 := by rw [ex10k] at c_155; have := (nI_leI (b := 0) (by omega) (by omega)).mp c_155; omega
                                obtain ⟨x8_2, ex8_2⟩ : ∃ z : Int32, z = x8 + 1 := ⟨_, rfl⟩
                                refine lv_iinc (v := x8_2) (lv' := [(8, .int x8_2), (0, .ref h), (1, .int t), (2, .int w), (3, .long bits), (5, .int m9), (6, .int R6), (9, .int x9), (10, .int x10)]) hx hb dX10_bribed_215 hl (k := 6) rfl (by rw [ex8_2]; rfl) (by decide) rfl (fun ls hl => ?_)
                                refine lv_goto (tgt := 101) hx hb dX10_bribed_218 (by decide) ?_
                                exact ih_101 (r + 1) _ _ (by omega) (by omega) (by rw [ex8_2, ex8]; exact nI_1 _) hku4 (fun k' n' hk' hn' => by rw [hJ4 k' n' hk' hn']; by_cases e : k < k'; rw [if_pos e]; rw [if_neg e, show k' = 0 by omega, cf]; simp) _ _ hP hD hS _ (lv_sub hl [1, 2, 3, 4, 5, 6, 0] rfl)
                              · have hk0 : 0 < k := by rw [ex10k] at c_155; exact Nat.not_le.mp (fun q => c_155 (nI_le (b := 0) q (by omega)))
                                refine lv_bipush (v := 60) hx hb dX10_bribed_158 (by decide) ?_
                                refine lv_istore (lv' := [(11, .int 60), (0, .ref h), (1, .int t), (2, .int w), (3, .long bits), (5, .int m9), (6, .int R6), (8, .int x8), (9, .int x9), (10, .int x10)]) hx hb dX10_bribed_160 hl (by decide) rfl (fun ls hl => ?_)
                                have lp_162 : ∀ (n_162 : Nat) (p9 : Nat) (u5 : mS) (x11 : Int32), (p9 ≤ 61) → (bbr N r ≤ p9) → (p9 + 1 ≤ n_162) → (x11 = nI p9 - 1) → (mKL u5 v) → (∀ k' n', k' ≤ ww → n' ≤ 60 → u5.2.2 30 (61 * k' + n') = lN (if k < k' ∨ (k' = k ∧ p9 ≤ n') then cf (bbr N) (r + 1) k' n' else cf (bbr N) r k' n')) → ∀ (H : Heap) (locs : List Loc), va_P D vwCl (mW h a y u5) H → va_D A (mW h a y u5) → va_S A s.heap H locs → ∀ (ls : Array Slot), lv_has ls 12 [(0, .ref h), (1, .int t), (2, .int w), (3, .long bits), (5, .int m9), (6, .int R6), (8, .int x8), (9, .int x9), (10, .int x10), (11, .int x11)] → W p l e (headSpec wsX10_bribed ({ frames := 2, cells := 0, slots := 0, locals := 47 })).room s m ([.ref h, .int t, .int w, .long bits, .int m9] : List Value).toArray below meth c H locs 0 0 (MQ below (va_Ql (fun r v' => r = spBribed n v t w bits m9 ∧ mKL v' v) (mEnd D y h a s.heap.size) A) ([.ref h, .int t, .int w, .long bits, .int m9] : List Value).toArray s 0 0 A) (F0 m 162 ls []) := by
                                  intro n_162
                                  induction n_162 with
                                  | zero =>
                                    intro p9 u5 x11 hp1 hp2 hpf ex11 hku5 hJ5
                                    exact absurd hpf (by omega)
                                  | succ n_162 ih_162 =>
                                    intro p9 u5 x11 hp1 hp2 hpf ex11 hku5 hJ5 H locs hP hD hS ls hl
                                    refine lv_iload hx hb dX10_bribed_162 (lv_at hl 9 rfl) ?_
                                    refine lv_iload hx hb dX10_bribed_164 (lv_at hl 7 rfl) ?_
                                    refine lv_icmp_lt (tgt := 209) hx hb dX10_bribed_166 (by decide) (fun c_166 => ?_) (fun c_166 => ?_)
                                    · have h9 : ¬ bbr N r < p9 := fun q => by rw [e9, ex11, show nI p9 - 1 = nI (p9 - 1) by rw [show (1 : Int32) = nI 1 from rfl, pk_sub (by omega)]] at c_166; have h8 := (nI_ltI (by omega) (by omega)).mp c_166; omega
                                      have hpb : p9 = bbr N r := by omega
                                      obtain ⟨x10_3, ex10_3⟩ : ∃ z : Int32, z = x10 + (-1) := ⟨_, rfl⟩
                                      refine lv_iinc (v := x10_3) (lv' := [(10, .int x10_3), (0, .ref h), (1, .int t), (2, .int w), (3, .long bits), (5, .int m9), (6, .int R6), (8, .int x8), (9, .int x9), (11, .int x11)]) hx hb dX10_bribed_209 hl (k := 8) rfl (by rw [ex10_3]; rfl) (by decide) rfl (fun ls hl => ?_)
                                      refine lv_goto (tgt := 153) hx hb dX10_bribed_212 (by decide) ?_
                                      exact ih_153 (k - 1) _ _ (by omega) (by omega) (by rw [ex10_3, ex10k]; exact pk_m1' (by omega)) hku5 (fun k' n' hk' hn' => by rw [hJ5 k' n' hk' hn']; by_cases e : k - 1 < k'; rw [if_pos e]; by_cases e2 : k < k'; rw [if_pos (Or.inl e2)]; by_cases e3 : p9 ≤ n'; rw [if_pos (Or.inr ⟨by omega, e3⟩)]; rw [if_neg (by omega), cf, if_neg (by omega)]; rfl; rw [if_neg e, if_neg (by omega)]) _ _ hP hD hS _ (lv_sub hl [1, 2, 3, 4, 5, 6, 7, 8, 0] rfl)
                                    · have hpb : bbr N r < p9 := by rcases Nat.lt_or_ge (bbr N r) p9 with q | q; exact q; exact absurd (by rw [e9, ex11, show p9 = bbr N r by omega]; exact Int32.lt_iff_toInt_lt.mpr (by rw [show (1 : Int32) = nI 1 from rfl, pk_sub_toInt (by omega) (by omega), nI_toInt (by omega)]; omega)) c_166
                                      have hx11 : x11 = nI (p9 - 1) := by rw [ex11, show (1 : Int32) = nI 1 from rfl, pk_sub (by omega)]
                                      have hia : (61 : Int32) * x10 + x11 = nI (61 * k + (p9 - 1)) := by rw [ex10k, hx11, ix61]
                                      have hib : (61 : Int32) * (x10 - 1) + x11 - x9 = nI (61 * (k - 1) + (p9 - 1 - bbr N r)) := by rw [ex10k, hx11, e9, show (1 : Int32) = nI 1 from rfl, pk_sub (by omega), ix61, pk_sub (by omega), Nat.add_sub_assoc (by omega)]
                                      have hca : (nI (61 * k + (p9 - 1))).toNatClampNeg = 61 * k + (p9 - 1) := nI_clamp (by omega)
                                      have hcb : (nI (61 * (k - 1) + (p9 - 1 - bbr N r))).toNatClampNeg = 61 * (k - 1) + (p9 - 1 - bbr N r) := nI_clamp (by omega)
                                      refine lv_aload_n hx hb dX10_bribed_169 rfl (lv_at hl 0 rfl) ?_
                                      refine mg_having hx hb hts hin hown hK hP (by decide +kernel) dX10_bribed_170 ?_
                                      refine lv_bipush (v := 61) hx hb dX10_bribed_173 (by decide) ?_
                                      refine lv_iload hx hb dX10_bribed_175 (lv_at hl 8 rfl) ?_
                                      refine lv_imul hx hb dX10_bribed_177 ?_
                                      refine lv_iload hx hb dX10_bribed_178 (lv_at hl 9 rfl) ?_
                                      refine lv_iadd hx hb dX10_bribed_180 ?_
                                      refine lv_dup2_11 hx hb dX10_bribed_181 rfl rfl ?_
                                      rw [hia]
                                      refine ml_having hx hb hK hP (vp_in_nI (by omega) (by omega)) dX10_bribed_182 ?_
                                      refine lv_aload_n hx hb dX10_bribed_183 rfl (lv_at hl 0 rfl) ?_
                                      refine mg_having hx hb hts hin hown hK hP (by decide +kernel) dX10_bribed_184 ?_
                                      refine lv_bipush (v := 61) hx hb dX10_bribed_187 (by decide) ?_
                                      refine lv_iload hx hb dX10_bribed_189 (lv_at hl 8 rfl) ?_
                                      refine lv_iconst (v := 1) hx hb dX10_bribed_191 (by decide) ?_
                                      refine lv_isub hx hb dX10_bribed_192 ?_
                                      refine lv_imul hx hb dX10_bribed_193 ?_
                                      refine lv_iload hx hb dX10_bribed_194 (lv_at hl 9 rfl) ?_
                                      refine lv_iadd hx hb dX10_bribed_196 ?_
                                      refine lv_iload hx hb dX10_bribed_197 (lv_at hl 7 rfl) ?_
                                      refine lv_isub hx hb dX10_bribed_199 ?_
                                      rw [hib]
                                      refine ml_having hx hb hK hP (vp_in_nI (by omega) (by omega)) dX10_bribed_200 ?_
                                      refine lv_ladd hx hb dX10_bribed_201 ?_
                                      refine ms_having hx hb hK hP hD hS (vp_in_nI (by omega) (by omega)) dX10_bribed_202 (fun H locs hP hD hS => ?_)
                                      rw [hca, hcb] at hP hD
                                      obtain ⟨x11_4, ex11_4⟩ : ∃ z : Int32, z = x11 + (-1) := ⟨_, rfl⟩
                                      refine lv_iinc (v := x11_4) (lv' := [(11, .int x11_4), (0, .ref h), (1, .int t), (2, .int w), (3, .long bits), (5, .int m9), (6, .int R6), (8, .int x8), (9, .int x9), (10, .int x10)]) hx hb dX10_bribed_203 hl (k := 9) rfl (by rw [ex11_4]; rfl) (by decide) rfl (fun ls hl => ?_)
                                      refine lv_goto (tgt := 162) hx hb dX10_bribed_206 (by decide) ?_
                                      exact ih_162 (p9 - 1) _ _ (by omega) (by omega) (by omega) (by rw [ex11_4, hx11, Int32.sub_eq_add_neg]) (hku5.put _ _) (br_step hk4 hk0 hp1 hpb hJ5) _ _ hP hD hS _ (lv_sub hl [1, 2, 3, 4, 5, 6, 7, 8, 9, 0] rfl)
                                exact lp_162 62 61 _ _ (by omega) (by have := hbb r; omega) (by omega) (by decide) hku4 (fun k' n' hk' hn' => by rw [hJ4 k' n' hk' hn']; by_cases e : k < k'; rw [if_pos e, if_pos (Or.inl e)]; rw [if_neg e, if_neg (by omega)]) _ _ hP hD hS _ (lv_sub hl [1, 2, 3, 4, 5, 6, 7, 8, 9, 0] rfl)
                          exact lp_153 (ww + 1) ww _ _ (Nat.le_refl _) (by omega) etw hku (fun k' n' hk' hn' => by rw [if_neg (by omega)]; exact hJ k' n' hk' hn') _ _ hP hD hS _ (lv_sub hl [1, 2, 3, 4, 5, 6, 7, 8, 0] rfl)
                        refine lv_iconst (v := 0) hx hb dX10_bribed_108 (by decide) ?_
                        refine lv_istore (lv' := [(9, .int 0), (0, .ref h), (1, .int t), (2, .int w), (3, .long bits), (5, .int m9), (6, .int R6), (8, .int x8)]) hx hb dX10_bribed_109 hl (by decide) rfl (fun ls hl => ?_)
                        refine lv_iconst (v := 0) hx hb dX10_bribed_111 (by decide) ?_
                        refine lv_istore (lv' := [(10, .int 0), (9, .int 0), (0, .ref h), (1, .int t), (2, .int w), (3, .long bits), (5, .int m9), (6, .int R6), (8, .int x8)]) hx hb dX10_bribed_112 hl (by decide) rfl (fun ls hl => ?_)
                        have lp_114 : ∀ (n_114 : Nat) (l5 : Nat) (x9l : Int32) (x10 : Int32), (l5 ≤ 5) → (6 ≤ l5 + n_114) → (x10 = nI l5) → (x9l = nI (bsm N r l5)) → (¬ r < 12 → l5 = 0) → (0 < l5 → r < 12) → ∀ (H : Heap) (locs : List Loc), va_P D vwCl (mW h a y u) H → va_D A (mW h a y u) → va_S A s.heap H locs → ∀ (ls : Array Slot), lv_has ls 12 [(0, .ref h), (1, .int t), (2, .int w), (3, .long bits), (5, .int m9), (6, .int R6), (8, .int x8), (9, .int x9l), (10, .int x10)] → W p l e (headSpec wsX10_bribed ({ frames := 2, cells := 0, slots := 0, locals := 47 })).room s m ([.ref h, .int t, .int w, .long bits, .int m9] : List Value).toArray below meth c H locs 0 0 (MQ below (va_Ql (fun r v' => r = spBribed n v t w bits m9 ∧ mKL v' v) (mEnd D y h a s.heap.size) A) ([.ref h, .int t, .int w, .long bits, .int m9] : List Value).toArray s 0 0 A) (F0 m 114 ls []) := by
                          intro n_114
                          induction n_114 with
                          | zero =>
                            intro l5 x9l x10 hl1 hlf ex10 ex9l hl0 hr1
                            exact absurd hlf (by omega)
                          | succ n_114 ih_114 =>
                            intro l5 x9l x10 hl1 hlf ex10 ex9l hl0 hr1 H locs hP hD hS ls hl
                            refine lv_iload hx hb dX10_bribed_114 (lv_at hl 8 rfl) ?_
                            refine lv_iconst (v := 5) hx hb dX10_bribed_116 (by decide) ?_
                            refine lv_icmp_ge (tgt := 150) hx hb dX10_bribed_117 (by decide) (fun c_117 => ?_) (fun c_117 => ?_)
                            · have hl5 : l5 = 5 := by rw [ex10] at c_117; have := (nI_leI (a := 5) (by omega) (by omega)).mp c_117; omega
                              exact j_150 _ (by rw [ex9l, hl5, bbr, if_pos (hr1 (by omega))]) _ _ hP hD hS _ (lv_sub hl [0, 1, 2, 3, 4, 5, 6, 7] rfl)
                            · have hl5 : l5 < 5 := by rw [ex10] at c_117; exact Nat.not_le.mp (fun q => c_117 (nI_le (a := 5) q (by omega)))
                              refine lv_iload hx hb dX10_bribed_120 (lv_at hl 6 rfl) ?_
                              refine lv_bipush (v := 12) hx hb dX10_bribed_122 (by decide) ?_
                              refine lv_icmp_ge (tgt := 150) hx hb dX10_bribed_124 (by decide) (fun c_124 => ?_) (fun c_124 => ?_)
                              · have hr12 : ¬ r < 12 := by rw [ex8] at c_124; have := (nI_leI (a := 12) (by omega) (by omega)).mp c_124; omega
                                exact j_150 _ (by rw [ex9l, bbr, if_neg hr12, hl0 hr12]; rfl) _ _ hP hD hS _ (lv_sub hl [0, 1, 2, 3, 4, 5, 6, 7] rfl)
                              · have hr12 : r < 12 := by rw [ex8] at c_124; exact Nat.not_le.mp (fun q => c_124 (nI_le (a := 12) q (by omega)))
                                have hix : (5 : Int32) * x8 + x10 = nI (5 * r + l5) := by rw [ex8, ex10, show (5 : Int32) = nI 5 from rfl, pk_mul, nI_add]
                                refine lv_iload hx hb dX10_bribed_127 (lv_at hl 7 rfl) ?_
                                refine lv_lload_n hx hb dX10_bribed_129 rfl (lv_at hl 3 rfl) ?_
                                refine lv_iconst (v := 5) hx hb dX10_bribed_130 (by decide) ?_
                                refine lv_iload hx hb dX10_bribed_131 (lv_at hl 6 rfl) ?_
                                refine lv_imul hx hb dX10_bribed_133 ?_
                                refine lv_iload hx hb dX10_bribed_134 (lv_at hl 8 rfl) ?_
                                refine lv_iadd hx hb dX10_bribed_136 ?_
                                refine lv_lushr hx hb dX10_bribed_137 rfl ?_
                                refine lv_lconst (v := 1) hx hb dX10_bribed_138 (by decide) ?_
                                have hbit : (bits.toUInt64 >>> (((5 : Int32) * x8 + x10).toInt64.toUInt64 &&& Int64.toUInt64 63)).toInt64 &&& 1 = lN (N / 2 ^ (5 * r + l5) % 2) := by rw [hix, hbN]; exact wb_bit hN64 (by omega)
                                refine lv_land hx hb dX10_bribed_139 ?_
                                refine lv_l2i hx hb dX10_bribed_140 rfl ?_
                                refine lv_iadd hx hb dX10_bribed_141 ?_
                                refine lv_topi (fun x9n ex9n => ?_)
                                refine lv_istore (lv' := [(9, .int x9n), (0, .ref h), (1, .int t), (2, .int w), (3, .long bits), (5, .int m9), (6, .int R6), (8, .int x8), (10, .int x10)]) hx hb dX10_bribed_142 hl (by decide) rfl (fun ls hl => ?_)
                                obtain ⟨x10_5, ex10_5⟩ : ∃ z : Int32, z = x10 + 1 := ⟨_, rfl⟩
                                refine lv_iinc (v := x10_5) (lv' := [(10, .int x10_5), (9, .int x9n), (0, .ref h), (1, .int t), (2, .int w), (3, .long bits), (5, .int m9), (6, .int R6), (8, .int x8)]) hx hb dX10_bribed_144 hl (k := 8) rfl (by rw [ex10_5]; rfl) (by decide) rfl (fun ls hl => ?_)
                                refine lv_goto (tgt := 114) hx hb dX10_bribed_147 (by decide) ?_
                                exact ih_114 (l5 + 1) _ _ (by omega) (by omega) (by rw [ex10_5, ex10]; exact nI_1 _) (by rw [ex9n, hbit, lN_i, ex9l, nI_add]; rfl) (fun q => absurd hr12 q) (fun _ => hr12) _ _ hP hD hS _ (lv_sub hl [2, 3, 4, 5, 6, 7, 8, 1, 0] rfl)
                        exact lp_114 6 0 _ _ (Nat.zero_le _) (by omega) rfl rfl (fun _ => rfl) (fun q => absurd q (Nat.lt_irrefl _)) _ _ hP hD hS _ (lv_sub hl [2, 3, 4, 5, 6, 7, 8, 1, 0] rfl)
                  exact lp_101 ((mRows v t n) + 1) 0 _ _ (Nat.zero_le _) (by omega) rfl (hku.put _ _) (fun k' n' hk' hn' => by rw [ml30, cf, show Int32.toNatClampNeg 0 = 0 from rfl]; by_cases e : 61 * k' + n' = 0; rw [if_pos e, if_pos ⟨by omega, by omega⟩]; rfl; rw [if_neg e, if_neg (by omega)]; exact hz _ (by omega)) _ _ hP hD hS _ (lv_sub hl [1, 2, 3, 4, 5, 6, 0] rfl)
                · have hi9 : i < 1891 := by rw [ex8] at c_74; exact Nat.not_le.mp (fun q => c_74 (nI_le (a := 1891) q (by omega)))
                  have hc8 : x8.toNatClampNeg = i := by rw [ex8]; exact nI_clamp (by omega)
                  refine lv_aload_n hx hb dX10_bribed_77 rfl (lv_at hl 0 rfl) ?_
                  refine mg_having hx hb hts hin hown hK hP (by decide +kernel) dX10_bribed_78 ?_
                  refine lv_iload hx hb dX10_bribed_81 (lv_at hl 6 rfl) ?_
                  refine lv_lconst (v := 0) hx hb dX10_bribed_83 (by decide) ?_
                  refine ms_having hx hb hK hP hD hS (by rw [ex8]; exact vp_in_nI (by omega) (by omega)) dX10_bribed_84 (fun H locs hP hD hS => ?_)
                  obtain ⟨x8_6, ex8_6⟩ : ∃ z : Int32, z = x8 + 1 := ⟨_, rfl⟩
                  refine lv_iinc (v := x8_6) (lv' := [(8, .int x8_6), (0, .ref h), (1, .int t), (2, .int w), (3, .long bits), (5, .int m9), (6, .int R6)]) hx hb dX10_bribed_85 hl (k := 6) rfl (by rw [ex8_6]; rfl) (by decide) rfl (fun ls hl => ?_)
                  refine lv_goto (tgt := 69) hx hb dX10_bribed_88 (by decide) ?_
                  exact ih_69 (i + 1) _ _ (by omega) (by omega) (by rw [ex8_6, ex8]; exact nI_1 _) (hku.put _ _) (fun j hj => by rw [hc8, ml30]; by_cases e : j = i; rw [if_pos e]; rw [if_neg e]; exact hz j (by omega)) _ _ hP hD hS _ (lv_sub hl [1, 2, 3, 4, 5, 6, 0] rfl)
            exact lp_69 1892 0 _ _ (Nat.zero_le _) (by omega) rfl (mKL.rf v) (fun j hj => absurd hj (Nat.not_lt_zero _)) _ _ hP hD hS _ (lv_sub hl [3, 4, 5, 6, 7, 2, 0] rfl)
          · have b59 : ¬ uNat bits / 2 ^ (5 * min (mRows v t n) 12) = 0 := fun q => c_59 ((lg_cmp_eq _ _).mpr (by rw [hshr, q]; rfl))
            refine lv_ldc2 (v := (-2)) hx hb hown (hts (.constantLong RX10 269 (-2)) (by decide +kernel)) dX10_bribed_62 ?_
            exact m_retl hx hb hr hlocks hAe hK hP hD hS dX10_bribed_65 (⟨by rw [spBribed, if_neg (by simp [okBr, b59])], mKL.rf v⟩)
    refine lv_iload hx hb dX10_bribed_18 (lv_at hl 0 rfl) ?_
    refine lv_bipush (v := 12) hx hb dX10_bribed_20 (by decide) ?_
    refine lv_icmp_ge (tgt := 30) hx hb dX10_bribed_22 (by decide) (fun c_22 => ?_) (fun c_22 => ?_)
    · have hs12 : min (mRows v t n) 12 = 12 := by rw [eR6] at c_22; have := (nI_leI (a := 12) (by omega) (by omega)).mp c_22; omega
      refine lv_bipush (v := 12) hx hb dX10_bribed_30 (by decide) ?_
      exact j_32 _ (by rw [hs12]; rfl)
    · have hs12 : min (mRows v t n) 12 = (mRows v t n) := by rw [eR6] at c_22; have h9 : ¬ 12 ≤ (mRows v t n) := fun q => c_22 (nI_le (a := 12) q (by omega)); omega
      refine lv_iload hx hb dX10_bribed_25 (lv_at hl 0 rfl) ?_
      refine lv_goto (tgt := 32) hx hb dX10_bribed_27 (by decide) ?_
      exact j_32 _ (by rw [hs12, eR6])
  · have b4 : isT t = false := (zI_eq _).mp c_4
    refine lv_ldc2 (v := (-2)) hx hb hown (hts (.constantLong RX10 269 (-2)) (by decide +kernel)) dX10_bribed_7 ?_
    exact m_retl hx hb hr hlocks hAe hK hP hD hS dX10_bribed_10 (⟨by simp [spBribed, okBr, b4], mKL.rf v⟩)
