/-! the reference's static methods of numbers -/
def mIn (v lo hi : Int64) : Int32 := if lo ≤ v ∧ v ≤ hi then 1 else 0
set_option maxHeartbeats 4000000 in
set_option maxRecDepth 100000 in
/-- in(v, lo, hi) -/
theorem ctX10_in (l : Launch) (v lo hi : Int64) : sMi l yX10_in wsX10_in ({ frames := 0, cells := 0, slots := 0, locals := 0 }) [.long v, .long lo, .long hi] (mIn v lo hi) := by
  refine sMi_of (cc := cX10_in) (maxL := 6) (ret := (some .boolean)) (by decide) rfl (Nat.le_of_ble_eq_true rfl) ?_
  intro p e s m below meth c ls hat hl
  obtain ⟨hx, hb, hr, hml, hts, hown, hlocks⟩ := hat
  have hl : lv_has ls 6 [(0, .long v), (2, .long lo), (4, .long hi)] := hl
  have hS : va_S (fun _ => False) s.heap s.heap [] := va_S.rf
  have hP : va_P (D := (fun _ => m.cls, fun _ _ => 0)) (cl := vwCl) [] s.heap := fun k q h => by simp at h
  refine lv_lload_n hx hb dX10_in_0 rfl (lv_at hl 0 rfl) ?_
  refine lv_lload_n hx hb dX10_in_1 rfl (lv_at hl 1 rfl) ?_
  refine W.lcmp hx hb dX10_in_2 ?_
  refine lv_if_lt (tgt := 17) hx hb dX10_in_3 (by decide) (fun c_3 => ?_) (fun c_3 => ?_)
  · refine lv_iconst (v := 0) hx hb dX10_in_17 (by decide) ?_
    exact s_reti hx hb hr hlocks (by first | rfl | decide) hS dX10_in_18 (by simp [mIn, ((lg_cmp_lt _ _).mp c_3), Int64.not_le.mpr ((lg_cmp_lt _ _).mp c_3)])
  · refine lv_lload_n hx hb dX10_in_6 rfl (lv_at hl 0 rfl) ?_
    refine lv_lload hx hb dX10_in_7 (lv_at hl 2 rfl) ?_
    refine W.lcmp hx hb dX10_in_9 ?_
    refine lv_if_gt (tgt := 17) hx hb dX10_in_10 (by decide) (fun c_10 => ?_) (fun c_10 => ?_)
    · refine lv_iconst (v := 0) hx hb dX10_in_17 (by decide) ?_
      exact s_reti hx hb hr hlocks (by first | rfl | decide) hS dX10_in_18 (by simp [mIn, (fun q => c_3 ((lg_cmp_lt _ _).mpr q)), Int64.not_lt.mp (fun q => c_3 ((lg_cmp_lt _ _).mpr q)), ((lg_cmp_gt _ _).mp c_10), Int64.not_le.mpr ((lg_cmp_gt _ _).mp c_10)])
    · refine lv_iconst (v := 1) hx hb dX10_in_13 (by decide) ?_
      refine lv_goto (tgt := 18) hx hb dX10_in_14 (by decide) ?_
      exact s_reti hx hb hr hlocks (by first | rfl | decide) hS dX10_in_18 (by simp [mIn, (fun q => c_3 ((lg_cmp_lt _ _).mpr q)), Int64.not_lt.mp (fun q => c_3 ((lg_cmp_lt _ _).mpr q)), (fun q => c_10 ((lg_cmp_gt _ _).mpr q)), Int64.not_lt.mp (fun q => c_10 ((lg_cmp_gt _ _).mpr q))])
/-- b as the machine has it -/
def zI (b : Bool) : Int32 := if b then 1 else 0
theorem zI_nar (b : Bool) : narrow .boolean (.int (zI b)) = .int (zI b) := by cases b <;> rfl
theorem zI_ne (b : Bool) : zI b ≠ 0 ↔ b = true := by cases b <;> decide
theorem zI_eq (b : Bool) : zI b = 0 ↔ b = false := by cases b <;> decide
theorem mIn_eq (v lo hi : Int64) : mIn v lo hi = zI (decide (lo ≤ v ∧ v ≤ hi)) := by
  unfold mIn zI
  by_cases h : lo ≤ v ∧ v ≤ hi <;> simp [h]
theorem mIn_nar (v lo hi : Int64) : narrow .boolean (.int (mIn v lo hi)) = .int (mIn v lo hi) := by rw [mIn_eq]; exact zI_nar _
/-- how many below n -/
def cnt (p : Nat → Bool) : Nat → Nat
  | 0 => 0
  | n + 1 => cnt p n + (if p n then 1 else 0)
theorem cnt_t {p : Nat → Bool} {k : Nat} (h : p k = true) : nI (cnt p k) + 1 = nI (cnt p (k + 1)) := by rw [nI_1, cnt, h]; rfl
theorem cnt_f {p : Nat → Bool} {k : Nat} (h : p k = false) : nI (cnt p k) + 0 = nI (cnt p (k + 1)) := by rw [cnt, h]; simp
theorem cnt_le (p : Nat → Bool) (n : Nat) : cnt p n ≤ n := by
  induction n with
  | zero => exact Nat.le_refl _
  | succ n ih => rw [cnt]; split <;> omega
theorem cnt_congr {p q : Nat → Bool} {n : Nat} (h : ∀ i, i < n → p i = q i) : cnt p n = cnt q n := by
  induction n with
  | zero => rfl
  | succ n ih => rw [cnt, cnt, ih (fun i hi => h i (by omega)), h n (by omega)]
/-! ranges of numbers, as both sides test them -/
def inR (lo hi : Int) (t : Int32) : Bool := decide (lo ≤ t.toInt ∧ t.toInt ≤ hi)
theorem mIn_R (t : Int32) (lo hi : Int64) : mIn t.toInt64 lo hi = zI (inR lo.toInt hi.toInt t) := by
  rw [mIn_eq, inR]
  congr 1
  simp only [Int64.le_iff_toInt_le, Int32.toInt_toInt64]
theorem inR_c {n : Nat} {t : Int32} (hn : n < 2 ^ 31) : inR 0 ((n : Int) - 1) t = true ↔ ∃ c, c < n ∧ t = nI c := by
  constructor
  · intro h
    have h1 := of_decide_eq_true h
    exact vp_in_of (vp_in_iff.mpr ⟨h1.1, by omega⟩) hn
  · rintro ⟨c, hc, rfl⟩
    have := nI_toInt (n := c) (by omega)
    exact decide_eq_true ⟨by omega, by omega⟩
theorem inR_f {n : Nat} {t : Int32} (hn : n < 2 ^ 31) : inR 0 ((n : Int) - 1) t = false ↔ ∀ c, c < n → t ≠ nI c := by
  rw [← Bool.not_eq_true, inR_c hn]
  simp
theorem nI_m1 {n : Nat} (h : n < 2 ^ 30) : (nI n - 1).toInt64.toInt = (n : Int) - 1 := by
  rw [Int32.toInt_toInt64]
  exact pk_sub_toInt (b := 1) h (by decide)
theorem isC_in {n : Nat} (h : n < 2 ^ 30) (t : Int32) : mIn t.toInt64 0 (nI n - 1).toInt64 = zI (inR 0 ((n : Int) - 1) t) := by
  rw [mIn_R, nI_m1 h]; rfl
theorem inR_k (n : Nat) {hi : Int} {t : Int32} (hh : hi + 1 = n) (hn : n < 2 ^ 31) : inR 0 hi t = true ↔ ∃ c, c < n ∧ t = nI c := by
  rw [show hi = (n : Int) - 1 by omega]
  exact inR_c hn
theorem inR_nar (lo hi : Int) (t : Int32) : narrow .boolean (.int (zI (inR lo hi t))) = .int (zI (inR lo hi t)) := zI_nar _
def isSm (c : Int32) : Bool := decide (97 ≤ c ∧ c ≤ 122)
def isDg (c : Int32) : Bool := decide (48 ≤ c ∧ c ≤ 57)
set_option maxHeartbeats 4000000 in
set_option maxRecDepth 100000 in
/-- isSmall -/
theorem ctX10_isSmall (l : Launch) (c0 : Int32) : sMi l yX10_isSmall wsX10_isSmall ({ frames := 0, cells := 0, slots := 0, locals := 0 }) [.int c0] (zI (isSm c0)) := by
  refine sMi_of (cc := cX10_isSmall) (maxL := 1) (ret := (some .boolean)) (by decide) rfl (Nat.le_of_ble_eq_true rfl) ?_
  intro p e s m below meth c ls hat hl
  obtain ⟨hx, hb, hr, hml, hts, hown, hlocks⟩ := hat
  have hl : lv_has ls 1 [(0, .int c0)] := hl
  have hS : va_S (fun _ => False) s.heap s.heap [] := va_S.rf
  have hP : va_P (D := (fun _ => m.cls, fun _ _ => 0)) (cl := vwCl) [] s.heap := fun k q h => by simp at h
  refine lv_iload_n hx hb dX10_isSmall_0 rfl (lv_at hl 0 rfl) ?_
  refine lv_bipush (v := 97) hx hb dX10_isSmall_1 (by decide) ?_
  refine lv_icmp_lt (tgt := 16) hx hb dX10_isSmall_3 (by decide) (fun c_3 => ?_) (fun c_3 => ?_)
  · refine lv_iconst (v := 0) hx hb dX10_isSmall_16 (by decide) ?_
    exact s_reti hx hb hr hlocks (by first | rfl | decide) hS dX10_isSmall_17 (by simp [zI, isSm, c_3, Int32.not_le.mpr c_3])
  · refine lv_iload_n hx hb dX10_isSmall_6 rfl (lv_at hl 0 rfl) ?_
    refine lv_bipush (v := 122) hx hb dX10_isSmall_7 (by decide) ?_
    refine lv_icmp_gt (tgt := 16) hx hb dX10_isSmall_9 (by decide) (fun c_9 => ?_) (fun c_9 => ?_)
    · refine lv_iconst (v := 0) hx hb dX10_isSmall_16 (by decide) ?_
      exact s_reti hx hb hr hlocks (by first | rfl | decide) hS dX10_isSmall_17 (by simp [zI, isSm, c_3, Int32.not_lt.mp c_3, c_9, Int32.not_le.mpr c_9])
    · refine lv_iconst (v := 1) hx hb dX10_isSmall_12 (by decide) ?_
      refine lv_goto (tgt := 17) hx hb dX10_isSmall_13 (by decide) ?_
      exact s_reti hx hb hr hlocks (by first | rfl | decide) hS dX10_isSmall_17 (by simp [zI, isSm, c_3, Int32.not_lt.mp c_3, c_9, Int32.not_lt.mp c_9])
set_option maxHeartbeats 4000000 in
set_option maxRecDepth 100000 in
/-- isDigit -/
theorem ctX10_isDigit (l : Launch) (c0 : Int32) : sMi l yX10_isDigit wsX10_isDigit ({ frames := 0, cells := 0, slots := 0, locals := 0 }) [.int c0] (zI (isDg c0)) := by
  refine sMi_of (cc := cX10_isDigit) (maxL := 1) (ret := (some .boolean)) (by decide) rfl (Nat.le_of_ble_eq_true rfl) ?_
  intro p e s m below meth c ls hat hl
  obtain ⟨hx, hb, hr, hml, hts, hown, hlocks⟩ := hat
  have hl : lv_has ls 1 [(0, .int c0)] := hl
  have hS : va_S (fun _ => False) s.heap s.heap [] := va_S.rf
  have hP : va_P (D := (fun _ => m.cls, fun _ _ => 0)) (cl := vwCl) [] s.heap := fun k q h => by simp at h
  refine lv_iload_n hx hb dX10_isDigit_0 rfl (lv_at hl 0 rfl) ?_
  refine lv_bipush (v := 48) hx hb dX10_isDigit_1 (by decide) ?_
  refine lv_icmp_lt (tgt := 16) hx hb dX10_isDigit_3 (by decide) (fun c_3 => ?_) (fun c_3 => ?_)
  · refine lv_iconst (v := 0) hx hb dX10_isDigit_16 (by decide) ?_
    exact s_reti hx hb hr hlocks (by first | rfl | decide) hS dX10_isDigit_17 (by simp [zI, isDg, c_3, Int32.not_le.mpr c_3])
  · refine lv_iload_n hx hb dX10_isDigit_6 rfl (lv_at hl 0 rfl) ?_
    refine lv_bipush (v := 57) hx hb dX10_isDigit_7 (by decide) ?_
    refine lv_icmp_gt (tgt := 16) hx hb dX10_isDigit_9 (by decide) (fun c_9 => ?_) (fun c_9 => ?_)
    · refine lv_iconst (v := 0) hx hb dX10_isDigit_16 (by decide) ?_
      exact s_reti hx hb hr hlocks (by first | rfl | decide) hS dX10_isDigit_17 (by simp [zI, isDg, c_3, Int32.not_lt.mp c_3, c_9, Int32.not_le.mpr c_9])
    · refine lv_iconst (v := 1) hx hb dX10_isDigit_12 (by decide) ?_
      refine lv_goto (tgt := 17) hx hb dX10_isDigit_13 (by decide) ?_
      exact s_reti hx hb hr hlocks (by first | rfl | decide) hS dX10_isDigit_17 (by simp [zI, isDg, c_3, Int32.not_lt.mp c_3, c_9, Int32.not_lt.mp c_9])
set_option maxHeartbeats 4000000 in
set_option maxRecDepth 100000 in
/-- isTribe -/
theorem ctX10_isTribe (l : Launch) (t : Int32) : sMi l yX10_isTribe wsX10_isTribe ({ frames := 1, cells := 0, slots := 0, locals := 25 }) [.int t] (zI (inR 0 9 t)) := by
  refine sMi_of (cc := cX10_isTribe) (maxL := 1) (ret := (some .boolean)) (by decide) rfl (Nat.le_of_ble_eq_true rfl) ?_
  intro p e s m below meth c ls hat hl
  obtain ⟨hx, hb, hr, hml, hts, hown, hlocks⟩ := hat
  have hl : lv_has ls 1 [(0, .int t)] := hl
  have hS : va_S (fun _ => False) s.heap s.heap [] := va_S.rf
  have hP : va_P (D := (fun _ => m.cls, fun _ _ => 0)) (cl := vwCl) [] s.heap := fun k q h => by simp at h
  refine lv_iload_n hx hb dX10_isTribe_0 rfl (lv_at hl 0 rfl) ?_
  refine lv_i2l hx hb dX10_isTribe_1 rfl ?_
  refine lv_lconst (v := 0) hx hb dX10_isTribe_2 (by decide) ?_
  refine lv_ldc2 (v := 9) hx hb hown (hts (.constantLong RX10 234 (9)) (by decide +kernel)) dX10_isTribe_3 ?_
  refine s_calli (As := [.long t.toInt64, .long 0, .long 9]) (rest := []) ⟨hx, hb, hml, hown, hts⟩ (ctX10_in l _ _ _) (cwS 3 hts gX10_isTribe_X10_in rfl rfl rfl (by decide +kernel) ⟨Nat.le_of_ble_eq_true rfl, Nat.le_of_ble_eq_true rfl⟩) hP hS rfl hl.1 rfl (Nat.le_of_ble_eq_true rfl) dX10_isTribe_6 ⟨Nat.zero_le _, Nat.zero_le _⟩ (fun H locs hP hS => ?_)
  exact s_reti hx hb hr hlocks (mIn_nar _ _ _) hS dX10_isTribe_9 (mIn_R t 0 9)
set_option maxHeartbeats 4000000 in
set_option maxRecDepth 100000 in
/-- isCourt -/
theorem ctX10_isCourt (l : Launch) (t : Int32) : sMi l yX10_isCourt wsX10_isCourt ({ frames := 1, cells := 0, slots := 0, locals := 25 }) [.int t] (zI (inR 0 4 t)) := by
  refine sMi_of (cc := cX10_isCourt) (maxL := 1) (ret := (some .boolean)) (by decide) rfl (Nat.le_of_ble_eq_true rfl) ?_
  intro p e s m below meth c ls hat hl
  obtain ⟨hx, hb, hr, hml, hts, hown, hlocks⟩ := hat
  have hl : lv_has ls 1 [(0, .int t)] := hl
  have hS : va_S (fun _ => False) s.heap s.heap [] := va_S.rf
  have hP : va_P (D := (fun _ => m.cls, fun _ _ => 0)) (cl := vwCl) [] s.heap := fun k q h => by simp at h
  refine lv_iload_n hx hb dX10_isCourt_0 rfl (lv_at hl 0 rfl) ?_
  refine lv_i2l hx hb dX10_isCourt_1 rfl ?_
  refine lv_lconst (v := 0) hx hb dX10_isCourt_2 (by decide) ?_
  refine lv_ldc2 (v := 4) hx hb hown (hts (.constantLong RX10 236 (4)) (by decide +kernel)) dX10_isCourt_3 ?_
  refine s_calli (As := [.long t.toInt64, .long 0, .long 4]) (rest := []) ⟨hx, hb, hml, hown, hts⟩ (ctX10_in l _ _ _) (cwS 3 hts gX10_isCourt_X10_in rfl rfl rfl (by decide +kernel) ⟨Nat.le_of_ble_eq_true rfl, Nat.le_of_ble_eq_true rfl⟩) hP hS rfl hl.1 rfl (Nat.le_of_ble_eq_true rfl) dX10_isCourt_6 ⟨Nat.zero_le _, Nat.zero_le _⟩ (fun H locs hP hS => ?_)
  exact s_reti hx hb hr hlocks (mIn_nar _ _ _) hS dX10_isCourt_9 (mIn_R t 0 4)
def mPlain (l : Int32) : Int32 := if l = 0 then 10950 else if l = 1 then 3 else if l = 2 then 1000 else if l = 3 then 0 else if l < 10 then 10 else if l < 16 then -1 else if l < 22 then 10 else 0
set_option maxHeartbeats 4000000 in
set_option maxRecDepth 100000 in
/-- plain(w) -/
theorem ctX10_plain (l : Launch) (w : Int32) : sMi l yX10_plain wsX10_plain ({ frames := 0, cells := 0, slots := 0, locals := 0 }) [.int w] (mPlain w) := by
  refine sMi_of (cc := cX10_plain) (maxL := 1) (ret := (some .int)) (by decide) rfl (Nat.le_of_ble_eq_true rfl) ?_
  intro p e s m below meth c ls hat hl
  obtain ⟨hx, hb, hr, hml, hts, hown, hlocks⟩ := hat
  have hl : lv_has ls 1 [(0, .int w)] := hl
  have hS : va_S (fun _ => False) s.heap s.heap [] := va_S.rf
  have hP : va_P (D := (fun _ => m.cls, fun _ _ => 0)) (cl := vwCl) [] s.heap := fun k q h => by simp at h
  refine lv_iload_n hx hb dX10_plain_0 rfl (lv_at hl 0 rfl) ?_
  refine lv_if_ne (tgt := 10) hx hb dX10_plain_1 (by decide) (fun c_1 => ?_) (fun c_1 => ?_)
  · refine lv_iload_n hx hb dX10_plain_10 rfl (lv_at hl 0 rfl) ?_
    refine lv_iconst (v := 1) hx hb dX10_plain_11 (by decide) ?_
    refine lv_icmp_ne (tgt := 19) hx hb dX10_plain_12 (by decide) (fun c_12 => ?_) (fun c_12 => ?_)
    · refine lv_iload_n hx hb dX10_plain_19 rfl (lv_at hl 0 rfl) ?_
      refine lv_iconst (v := 2) hx hb dX10_plain_20 (by decide) ?_
      refine lv_icmp_ne (tgt := 30) hx hb dX10_plain_21 (by decide) (fun c_21 => ?_) (fun c_21 => ?_)
      · refine lv_iload_n hx hb dX10_plain_30 rfl (lv_at hl 0 rfl) ?_
        refine lv_iconst (v := 3) hx hb dX10_plain_31 (by decide) ?_
        refine lv_icmp_ne (tgt := 39) hx hb dX10_plain_32 (by decide) (fun c_32 => ?_) (fun c_32 => ?_)
        · refine lv_iload_n hx hb dX10_plain_39 rfl (lv_at hl 0 rfl) ?_
          refine lv_bipush (v := 10) hx hb dX10_plain_40 (by decide) ?_
          refine lv_icmp_ge (tgt := 50) hx hb dX10_plain_42 (by decide) (fun c_42 => ?_) (fun c_42 => ?_)
          · refine lv_iload_n hx hb dX10_plain_50 rfl (lv_at hl 0 rfl) ?_
            refine lv_bipush (v := 16) hx hb dX10_plain_51 (by decide) ?_
            refine lv_icmp_ge (tgt := 60) hx hb dX10_plain_53 (by decide) (fun c_53 => ?_) (fun c_53 => ?_)
            · refine lv_iload_n hx hb dX10_plain_60 rfl (lv_at hl 0 rfl) ?_
              refine lv_bipush (v := 22) hx hb dX10_plain_61 (by decide) ?_
              refine lv_icmp_ge (tgt := 71) hx hb dX10_plain_63 (by decide) (fun c_63 => ?_) (fun c_63 => ?_)
              · refine lv_iconst (v := 0) hx hb dX10_plain_71 (by decide) ?_
                exact s_reti hx hb hr hlocks rfl hS dX10_plain_72 (by simp [mPlain, c_1, c_12, c_21, c_32, c_42, Int32.not_lt.mpr c_42, c_53, Int32.not_lt.mpr c_53, c_63, Int32.not_lt.mpr c_63])
              · refine lv_bipush (v := 10) hx hb dX10_plain_66 (by decide) ?_
                refine lv_goto (tgt := 72) hx hb dX10_plain_68 (by decide) ?_
                exact s_reti hx hb hr hlocks rfl hS dX10_plain_72 (by simp [mPlain, c_1, c_12, c_21, c_32, c_42, Int32.not_lt.mpr c_42, c_53, Int32.not_lt.mpr c_53, c_63, Int32.not_le.mp c_63])
            · refine lv_iconst (v := (-1)) hx hb dX10_plain_56 (by decide) ?_
              refine lv_goto (tgt := 72) hx hb dX10_plain_57 (by decide) ?_
              exact s_reti hx hb hr hlocks rfl hS dX10_plain_72 (by simp [mPlain, c_1, c_12, c_21, c_32, c_42, Int32.not_lt.mpr c_42, c_53, Int32.not_le.mp c_53])
          · refine lv_bipush (v := 10) hx hb dX10_plain_45 (by decide) ?_
            refine lv_goto (tgt := 72) hx hb dX10_plain_47 (by decide) ?_
            exact s_reti hx hb hr hlocks rfl hS dX10_plain_72 (by simp [mPlain, c_1, c_12, c_21, c_32, c_42, Int32.not_le.mp c_42])
        · refine lv_iconst (v := 0) hx hb dX10_plain_35 (by decide) ?_
          refine lv_goto (tgt := 72) hx hb dX10_plain_36 (by decide) ?_
          exact s_reti hx hb hr hlocks rfl hS dX10_plain_72 (by simp [mPlain, c_1, c_12, c_21, c_32])
      · refine lv_sipush (v := 1000) hx hb dX10_plain_24 (by decide) ?_
        refine lv_goto (tgt := 72) hx hb dX10_plain_27 (by decide) ?_
        exact s_reti hx hb hr hlocks rfl hS dX10_plain_72 (by simp [mPlain, c_1, c_12, c_21])
    · refine lv_iconst (v := 3) hx hb dX10_plain_15 (by decide) ?_
      refine lv_goto (tgt := 72) hx hb dX10_plain_16 (by decide) ?_
      exact s_reti hx hb hr hlocks rfl hS dX10_plain_72 (by simp [mPlain, c_1, c_12])
  · refine lv_sipush (v := 10950) hx hb dX10_plain_4 (by decide) ?_
    refine lv_goto (tgt := 72) hx hb dX10_plain_7 (by decide) ?_
    exact s_reti hx hb hr hlocks rfl hS dX10_plain_72 (by simp [mPlain, c_1])
