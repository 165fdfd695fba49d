/-! the reference: texts in force, signs of the tape, courts shut, debts laid -/
/-- the text in force of the first t ones -/
def fB (v : mS) (day : Int32) : Nat → Option Nat
  | 0 => none
  | t + 1 => if v.2.1 11 t ≤ day then (match fB v day t with
    | none => some t
    | some b => if v.2.1 11 b ≤ v.2.1 11 t then some t else some b) else fB v day t
def oI : Option Nat → Int32
  | none => -1
  | some t => nI t
theorem fB_lt {v : mS} {day : Int32} : ∀ {t b : Nat}, fB v day t = some b → b < t
  | 0, _, h => by cases h
  | t + 1, b, h => by
    rw [fB] at h
    split at h
    · split at h
      · cases h; omega
      · rename_i b' hb
        split at h
        · cases h; omega
        · cases h; have := fB_lt hb; omega
    · have := fB_lt h; omega
theorem oI_none {o : Option Nat} {n : Nat} (ho : ∀ b, o = some b → b < n) (hn : n < 2 ^ 31) : oI o = -1 ↔ o = none := by
  cases o with
  | none => simp [oI]
  | some b =>
    simp only [oI, reduceCtorEq, iff_false]
    intro h
    have h1 := nI_pos' (n := b) (by have := ho b rfl; omega)
    rw [h] at h1
    exact absurd h1 (by decide)
set_option maxHeartbeats 4000000 in
set_option maxRecDepth 100000 in
/-- force(day) -/
theorem ctX10_force (l : Launch) (D : va_G) (y : Nat → ClassId) (h : Nat) (a : Nat → Nat) (v : mS) (day : Int32) (T : Nat) (ht : v.1 12 = nI T) (hT : T ≤ 15) : mMi l yX10_force wsX10_force ({ frames := 0, cells := 0, slots := 0, locals := 0 }) D y h a v [.ref h, .int day] (fun r v' => r = oI (fB v day T) ∧ v' = v) := by
  refine mMi_of (cc := cX10_force) (maxL := 4) (ret := (some .int)) rfl rfl (Nat.le_of_ble_eq_true rfl) ?_
  intro p e s m below meth c A ls hat hAe hl
  obtain ⟨hx, hb, hr, hml, hts, hown, hlocks, hK, hP, hD, hA⟩ := hat
  have hin : ∀ w ∈ wsX100, w ∈ wsX10_force := fun _ h9 => List.mem_cons_of_mem _ (List.mem_append_right _ h9)
  have hl : lv_has ls 4 [(0, .ref h), (1, .int day)] := hl
  have hS : va_S A s.heap s.heap [] := va_S.rf
  refine lv_iconst (v := (-1)) hx hb dX10_force_0 (by decide) ?_
  refine lv_istore_n (lv' := [(2, .int (-1)), (0, .ref h), (1, .int day)]) hx hb dX10_force_1 rfl hl (by decide) rfl (fun ls hl => ?_)
  refine lv_iconst (v := 0) hx hb dX10_force_2 (by decide) ?_
  refine lv_istore_n (lv' := [(3, .int 0), (2, .int (-1)), (0, .ref h), (1, .int day)]) hx hb dX10_force_3 rfl hl (by decide) rfl (fun ls hl => ?_)
  have lp_4 : ∀ (n_4 : Nat) (k : Nat) (x2 : Int32) (x3 : Int32), (k ≤ T) → (T + 1 ≤ k + n_4) → (x3 = nI k) → (x2 = oI (fB v day k)) → ∀ (H : Heap) (locs : List Loc), va_P D vwCl (mW h a y v) H → va_D A (mW h a y v) → va_S A s.heap H locs → ∀ (ls : Array Slot), lv_has ls 4 [(0, .ref h), (1, .int day), (2, .int x2), (3, .int x3)] → W p l e (headSpec wsX10_force ({ frames := 0, cells := 0, slots := 0, locals := 0 })).room s m ([.ref h, .int day] : List Value).toArray below meth c H locs 0 0 (MQ below (va_Qi (fun r v' => r = oI (fB v day T) ∧ v' = v) (mEnd D y h a s.heap.size) A) ([.ref h, .int day] : List Value).toArray s 0 0 A) (F0 m 4 ls []) := by
    intro n_4
    induction n_4 with
    | zero =>
      intro k x2 x3 hk hf ex3 ex2
      exact absurd hf (by omega)
    | succ n_4 ih_4 =>
      intro k x2 x3 hk hf ex3 ex2 H locs hP hD hS ls hl
      have hc : x3.toNatClampNeg = k := by rw [ex3]; exact nI_clamp (by omega)
      have hon := oI_none (o := fB v day k) (fun b hb => fB_lt hb) (by omega)
      refine lv_iload_n hx hb dX10_force_4 rfl (lv_at hl 3 rfl) ?_
      refine lv_aload_n hx hb dX10_force_5 rfl (lv_at hl 0 rfl) ?_
      refine mg_texts hx hb hts hin hown hK hP (by decide +kernel) dX10_force_6 ?_
      refine lv_icmp_ge (tgt := 50) hx hb dX10_force_9 (by decide) (fun c_9 => ?_) (fun c_9 => ?_)
      · rw [ht, ex3] at c_9
        have hkn : k = T := by have := (nI_leI (by omega) (by omega)).mp c_9; omega
        refine lv_iload_n hx hb dX10_force_50 rfl (lv_at hl 2 rfl) ?_
        exact m_reti hx hb hr hlocks hAe hK hP hD hS rfl dX10_force_51 (⟨by rw [ex2, hkn], rfl⟩)
      · rw [ht, ex3] at c_9
        have hkn : k < T := Nat.not_le.mp (fun q => c_9 (nI_le q (by omega)))
        have hi : vp_in x3 16 := by rw [ex3]; exact vp_in_nI (by omega) (by omega)
        refine lv_aload_n hx hb dX10_force_12 rfl (lv_at hl 0 rfl) ?_
        refine mg_firstDay hx hb hts hin hown hK hP (by decide +kernel) dX10_force_13 ?_
        refine lv_iload_n hx hb dX10_force_16 rfl (lv_at hl 3 rfl) ?_
        refine ml_firstDay hx hb hK hP (hi) dX10_force_17 ?_
        refine lv_iload_n hx hb dX10_force_18 rfl (lv_at hl 1 rfl) ?_
        refine lv_icmp_gt (tgt := 44) hx hb dX10_force_19 (by decide) (fun c_19 => ?_) (fun c_19 => ?_)
        · rw [hc] at c_19
          obtain ⟨x3_1, ex3_1⟩ : ∃ z : Int32, z = x3 + 1 := ⟨_, rfl⟩
          refine lv_iinc (v := x3_1) (lv' := [(3, .int x3_1), (0, .ref h), (1, .int day), (2, .int x2)]) hx hb dX10_force_44 hl (k := 3) rfl (by rw [ex3_1]; rfl) (by decide) rfl (fun ls hl => ?_)
          refine lv_goto (tgt := 4) hx hb dX10_force_47 (by decide) ?_
          exact ih_4 (k + 1) _ _ (by omega) (by omega) (by rw [ex3_1, ex3]; exact nI_1 _) (by rw [ex2, fB, if_neg (by have := c_19; exact Int32.not_le.mpr this)]) _ _ hP hD hS _ (lv_sub hl [1, 2, 3, 0] rfl)
        · rw [hc] at c_19
          refine lv_iload_n hx hb dX10_force_22 rfl (lv_at hl 2 rfl) ?_
          refine lv_iconst (v := (-1)) hx hb dX10_force_23 (by decide) ?_
          refine lv_icmp_eq (tgt := 42) hx hb dX10_force_24 (by decide) (fun c_24 => ?_) (fun c_24 => ?_)
          · have ho : fB v day k = none := hon.mp (by rw [← ex2]; exact c_24)
            refine lv_iload_n hx hb dX10_force_42 rfl (lv_at hl 3 rfl) ?_
            refine lv_istore_n (lv' := [(2, .int x3), (0, .ref h), (1, .int day), (3, .int x3)]) hx hb dX10_force_43 rfl hl (by decide) rfl (fun ls hl => ?_)
            obtain ⟨x3_2, ex3_2⟩ : ∃ z : Int32, z = x3 + 1 := ⟨_, rfl⟩
            refine lv_iinc (v := x3_2) (lv' := [(3, .int x3_2), (2, .int x3), (0, .ref h), (1, .int day)]) hx hb dX10_force_44 hl (k := 3) rfl (by rw [ex3_2]; rfl) (by decide) rfl (fun ls hl => ?_)
            refine lv_goto (tgt := 4) hx hb dX10_force_47 (by decide) ?_
            exact ih_4 (k + 1) _ _ (by omega) (by omega) (by rw [ex3_2, ex3]; exact nI_1 _) (by rw [ex3, fB, if_pos (Int32.not_lt.mp c_19), ho]; rfl) _ _ hP hD hS _ (lv_sub hl [2, 3, 1, 0] rfl)
          · obtain ⟨b, ho⟩ : ∃ b, fB v day k = some b := Option.ne_none_iff_exists'.mp (fun q => c_24 (by rw [ex2]; exact hon.mpr q))
            have hb1 := fB_lt ho
            have hb2 : x2 = nI b := by rw [ex2, ho]; rfl
            have hcb : x2.toNatClampNeg = b := by rw [hb2]; exact nI_clamp (by omega)
            have hib : vp_in x2 16 := by rw [hb2]; exact vp_in_nI (by omega) (by omega)
            refine lv_aload_n hx hb dX10_force_27 rfl (lv_at hl 0 rfl) ?_
            refine mg_firstDay hx hb hts hin hown hK hP (by decide +kernel) dX10_force_28 ?_
            refine lv_iload_n hx hb dX10_force_31 rfl (lv_at hl 3 rfl) ?_
            refine ml_firstDay hx hb hK hP (hi) dX10_force_32 ?_
            refine lv_aload_n hx hb dX10_force_33 rfl (lv_at hl 0 rfl) ?_
            refine mg_firstDay hx hb hts hin hown hK hP (by decide +kernel) dX10_force_34 ?_
            refine lv_iload_n hx hb dX10_force_37 rfl (lv_at hl 2 rfl) ?_
            refine ml_firstDay hx hb hK hP (hib) dX10_force_38 ?_
            refine lv_icmp_lt (tgt := 44) hx hb dX10_force_39 (by decide) (fun c_39 => ?_) (fun c_39 => ?_)
            · rw [hc, hcb] at c_39
              obtain ⟨x3_3, ex3_3⟩ : ∃ z : Int32, z = x3 + 1 := ⟨_, rfl⟩
              refine lv_iinc (v := x3_3) (lv' := [(3, .int x3_3), (0, .ref h), (1, .int day), (2, .int x2)]) hx hb dX10_force_44 hl (k := 3) rfl (by rw [ex3_3]; rfl) (by decide) rfl (fun ls hl => ?_)
              refine lv_goto (tgt := 4) hx hb dX10_force_47 (by decide) ?_
              exact ih_4 (k + 1) _ _ (by omega) (by omega) (by rw [ex3_3, ex3]; exact nI_1 _) (by rw [ex2, fB, if_pos (Int32.not_lt.mp c_19), ho]; simp [Int32.not_le.mpr c_39]) _ _ hP hD hS _ (lv_sub hl [1, 2, 3, 0] rfl)
            · rw [hc, hcb] at c_39
              refine lv_iload_n hx hb dX10_force_42 rfl (lv_at hl 3 rfl) ?_
              refine lv_istore_n (lv' := [(2, .int x3), (0, .ref h), (1, .int day), (3, .int x3)]) hx hb dX10_force_43 rfl hl (by decide) rfl (fun ls hl => ?_)
              obtain ⟨x3_4, ex3_4⟩ : ∃ z : Int32, z = x3 + 1 := ⟨_, rfl⟩
              refine lv_iinc (v := x3_4) (lv' := [(3, .int x3_4), (2, .int x3), (0, .ref h), (1, .int day)]) hx hb dX10_force_44 hl (k := 3) rfl (by rw [ex3_4]; rfl) (by decide) rfl (fun ls hl => ?_)
              refine lv_goto (tgt := 4) hx hb dX10_force_47 (by decide) ?_
              exact ih_4 (k + 1) _ _ (by omega) (by omega) (by rw [ex3_4, ex3]; exact nI_1 _) (by rw [ex3, fB, if_pos (Int32.not_lt.mp c_19), ho]; simp [Int32.not_lt.mp c_39, oI]) _ _ hP hD hS _ (lv_sub hl [2, 3, 1, 0] rfl)
  exact lp_4 (T + 1) 0 _ _ (Nat.zero_le _) (by omega) rfl rfl _ _ hP hD hS _ (lv_sub hl [2, 3, 1, 0] rfl)
def mLaw (v : mS) (day : Int32) (T w : Nat) : Int32 := match fB v day T with
  | none => mPlain (nI w)
  | some b => v.2.1 10 (28 * b + w)
set_option maxHeartbeats 4000000 in
set_option maxRecDepth 100000 in
/-- lawOf(day, w) -/
theorem ctX10_lawOf (l : Launch) (D : va_G) (y : Nat → ClassId) (h : Nat) (a : Nat → Nat) (v : mS) (day : Int32) (w : Nat) (T : Nat) (hw : w < 28) (ht : v.1 12 = nI T) (hT : T ≤ 15) : mMi l yX10_lawOf wsX10_lawOf ({ frames := 1, cells := 0, slots := 0, locals := 23 }) D y h a v [.ref h, .int day, .int (nI w)] (fun r v' => r = mLaw v day T w ∧ v' = v) := by
  refine mMi_of (cc := cX10_lawOf) (maxL := 3) (ret := (some .int)) rfl rfl (Nat.le_of_ble_eq_true rfl) ?_
  intro p e s m below meth c A ls hat hAe hl
  obtain ⟨hx, hb, hr, hml, hts, hown, hlocks, hK, hP, hD, hA⟩ := hat
  have hin : ∀ w ∈ wsX100, w ∈ wsX10_lawOf := fun _ h9 => List.mem_cons_of_mem _ (List.mem_append_right _ h9)
  have hl : lv_has ls 3 [(0, .ref h), (1, .int day), (2, .int (nI w))] := hl
  have hS : va_S A s.heap s.heap [] := va_S.rf
  have hon := oI_none (o := fB v day T) (fun b hb => fB_lt hb) (by omega)
  refine lv_aload_n hx hb dX10_lawOf_0 rfl (lv_at hl 0 rfl) ?_
  refine lv_iload_n hx hb dX10_lawOf_1 rfl (lv_at hl 1 rfl) ?_
  refine m_callip (As := [.int day]) (rest := []) ⟨hx, hb, hml, hown, hts⟩ (ctX10_force l D y h a v day T ht hT) (cwV 1 hts gX10_lawOf_X10_force rfl rfl rfl (by decide +kernel) ⟨Nat.le_of_ble_eq_true rfl, Nat.le_of_ble_eq_true rfl⟩) hK hP hD hS hA rfl hl.1 rfl (Nat.le_of_ble_eq_true rfl) dX10_lawOf_2 ⟨Nat.zero_le _, Nat.zero_le _⟩ (fun H locs hP hD hS => ?_)
  refine lv_topi (fun r2 er2 => ?_)
  refine lv_iconst (v := (-1)) hx hb dX10_lawOf_5 (by decide) ?_
  refine lv_icmp_ne (tgt := 16) hx hb dX10_lawOf_6 (by decide) (fun c_6 => ?_) (fun c_6 => ?_)
  · obtain ⟨b, ho⟩ : ∃ b, fB v day T = some b := Option.ne_none_iff_exists'.mp (fun q => c_6 (by rw [er2]; exact hon.mpr q))
    have hb1 := fB_lt ho
    refine lv_aload_n hx hb dX10_lawOf_16 rfl (lv_at hl 0 rfl) ?_
    refine mg_laws hx hb hts hin hown hK hP (by decide +kernel) dX10_lawOf_17 ?_
    refine lv_bipush (v := 28) hx hb dX10_lawOf_20 (by decide) ?_
    refine lv_aload_n hx hb dX10_lawOf_22 rfl (lv_at hl 0 rfl) ?_
    refine lv_iload_n hx hb dX10_lawOf_23 rfl (lv_at hl 1 rfl) ?_
    refine m_callip (As := [.int day]) (rest := [.int 28, .ref (a 10)]) ⟨hx, hb, hml, hown, hts⟩ (ctX10_force l D y h a v day T ht hT) (cwV 1 hts gX10_lawOf_X10_force rfl rfl rfl (by decide +kernel) ⟨Nat.le_of_ble_eq_true rfl, Nat.le_of_ble_eq_true rfl⟩) hK hP hD hS hA rfl hl.1 rfl (Nat.le_of_ble_eq_true rfl) dX10_lawOf_24 ⟨Nat.zero_le _, Nat.zero_le _⟩ (fun H locs hP hD hS => ?_)
    refine lv_topi (fun r24 er24 => ?_)
    refine lv_imul hx hb dX10_lawOf_27 ?_
    refine lv_iload_n hx hb dX10_lawOf_28 rfl (lv_at hl 2 rfl) ?_
    refine lv_iadd hx hb dX10_lawOf_29 ?_
    have hix : (28 : Int32) * r24 + nI w = nI (28 * b + w) := by rw [er24, ho, oI, show (28 : Int32) = nI 28 from rfl, pk_mul, nI_add]
    rw [hix]
    have hcx : (nI (28 * b + w)).toNatClampNeg = 28 * b + w := nI_clamp (by omega)
    refine ml_laws hx hb hK hP (vp_in_nI (by omega) (by omega)) dX10_lawOf_30 ?_
    exact m_reti hx hb hr hlocks hAe hK hP hD hS rfl dX10_lawOf_31 (⟨by rw [mLaw, ho, hcx], rfl⟩)
  · have ho : fB v day T = none := hon.mp (by rw [← er2]; simpa using c_6)
    refine lv_iload_n hx hb dX10_lawOf_9 rfl (lv_at hl 2 rfl) ?_
    refine s_calli (As := [.int (nI w)]) (rest := []) ⟨hx, hb, hml, hown, hts⟩ (ctX10_plain l (nI w)) (cwS 1 hts gX10_lawOf_X10_plain rfl rfl rfl (by decide +kernel) ⟨Nat.le_of_ble_eq_true rfl, Nat.le_of_ble_eq_true rfl⟩) hP hS rfl hl.1 rfl (Nat.le_of_ble_eq_true rfl) dX10_lawOf_10 ⟨Nat.zero_le _, Nat.zero_le _⟩ (fun H locs hP hS => ?_)
    refine lv_goto (tgt := 31) hx hb dX10_lawOf_13 (by decide) ?_
    exact m_reti hx hb hr hlocks hAe hK hP hD hS rfl dX10_lawOf_31 (⟨by rw [mLaw, ho], rfl⟩)
def mSit (v : mS) (T c : Nat) : Bool := !decide (v.2.1 19 c = 0) && (decide (v.2.1 20 c = 0) && !decide (v.1 14 - v.2.1 18 c < mLaw v (v.1 14) T 0))
set_option maxHeartbeats 4000000 in
set_option maxRecDepth 100000 in
/-- maySit(cc) -/
theorem ctX10_maySit (l : Launch) (D : va_G) (y : Nat → ClassId) (h : Nat) (a : Nat → Nat) (v : mS) (cc T : Nat) (hc1 : cc < 150) (ht : v.1 12 = nI T) (hT : T ≤ 15) : mMi l yX10_maySit wsX10_maySit ({ frames := 2, cells := 0, slots := 0, locals := 45 }) D y h a v [.ref h, .int (nI cc)] (fun r v' => r = zI (mSit v T cc) ∧ v' = v) := by
  refine mMi_of (cc := cX10_maySit) (maxL := 2) (ret := (some .boolean)) rfl rfl (Nat.le_of_ble_eq_true rfl) ?_
  intro p e s m below meth c A ls hat hAe hl
  obtain ⟨hx, hb, hr, hml, hts, hown, hlocks, hK, hP, hD, hA⟩ := hat
  have hin : ∀ w ∈ wsX100, w ∈ wsX10_maySit := fun _ h9 => List.mem_cons_of_mem _ (List.mem_append_right _ h9)
  have hl : lv_has ls 2 [(0, .ref h), (1, .int (nI cc))] := hl
  have hS : va_S A s.heap s.heap [] := va_S.rf
  have hc : (nI cc).toNatClampNeg = cc := nI_clamp (by omega)
  have hi : vp_in (nI cc) 150 := vp_in_nI hc1 (by omega)
  refine lv_aload_n hx hb dX10_maySit_0 rfl (lv_at hl 0 rfl) ?_
  refine mg_sworn hx hb hts hin hown hK hP (by decide +kernel) dX10_maySit_1 ?_
  refine lv_iload_n hx hb dX10_maySit_4 rfl (lv_at hl 1 rfl) ?_
  refine ml_sworn hx hb hK hP (hi) dX10_maySit_5 ?_
  refine lv_if_eq (tgt := 45) hx hb dX10_maySit_6 (by decide) (fun c_6 => ?_) (fun c_6 => ?_)
  · rw [hc] at c_6
    refine lv_iconst (v := 0) hx hb dX10_maySit_45 (by decide) ?_
    exact m_reti hx hb hr hlocks hAe hK hP hD hS (by first | rfl | decide) dX10_maySit_46 (⟨by simp [zI, mSit, c_6], rfl⟩)
  · rw [hc] at c_6
    refine lv_aload_n hx hb dX10_maySit_9 rfl (lv_at hl 0 rfl) ?_
    refine mg_owes hx hb hts hin hown hK hP (by decide +kernel) dX10_maySit_10 ?_
    refine lv_iload_n hx hb dX10_maySit_13 rfl (lv_at hl 1 rfl) ?_
    refine ml_owes hx hb hK hP (hi) dX10_maySit_14 ?_
    refine lv_if_ne (tgt := 45) hx hb dX10_maySit_15 (by decide) (fun c_15 => ?_) (fun c_15 => ?_)
    · rw [hc] at c_15
      refine lv_iconst (v := 0) hx hb dX10_maySit_45 (by decide) ?_
      exact m_reti hx hb hr hlocks hAe hK hP hD hS (by first | rfl | decide) dX10_maySit_46 (⟨by simp [zI, mSit, c_6, c_15], rfl⟩)
    · rw [hc] at c_15
      refine lv_aload_n hx hb dX10_maySit_18 rfl (lv_at hl 0 rfl) ?_
      refine mg_clock hx hb hts hin hown hK hP (by decide +kernel) dX10_maySit_19 ?_
      refine lv_aload_n hx hb dX10_maySit_22 rfl (lv_at hl 0 rfl) ?_
      refine mg_born hx hb hts hin hown hK hP (by decide +kernel) dX10_maySit_23 ?_
      refine lv_iload_n hx hb dX10_maySit_26 rfl (lv_at hl 1 rfl) ?_
      refine ml_born hx hb hK hP (hi) dX10_maySit_27 ?_
      refine lv_isub hx hb dX10_maySit_28 ?_
      refine lv_aload_n hx hb dX10_maySit_29 rfl (lv_at hl 0 rfl) ?_
      refine lv_aload_n hx hb dX10_maySit_30 rfl (lv_at hl 0 rfl) ?_
      refine mg_clock hx hb hts hin hown hK hP (by decide +kernel) dX10_maySit_31 ?_
      refine lv_iconst (v := 0) hx hb dX10_maySit_34 (by decide) ?_
      refine m_callip (As := [.int _, .int 0]) (rest := [.int _]) ⟨hx, hb, hml, hown, hts⟩ (ctX10_lawOf l D y h a v (v.1 14) 0 T (by omega) ht hT) (cwV 2 hts gX10_maySit_X10_lawOf rfl rfl rfl (by decide +kernel) ⟨Nat.le_of_ble_eq_true rfl, Nat.le_of_ble_eq_true rfl⟩) hK hP hD hS hA rfl hl.1 rfl (Nat.le_of_ble_eq_true rfl) dX10_maySit_35 ⟨Nat.zero_le _, Nat.zero_le _⟩ (fun H locs hP hD hS => ?_)
      refine lv_topi (fun r35 er35 => ?_)
      refine lv_icmp_lt (tgt := 45) hx hb dX10_maySit_38 (by decide) (fun c_38 => ?_) (fun c_38 => ?_)
      · rw [hc, er35] at c_38
        refine lv_iconst (v := 0) hx hb dX10_maySit_45 (by decide) ?_
        exact m_reti hx hb hr hlocks hAe hK hP hD hS (by first | rfl | decide) dX10_maySit_46 (⟨by simp [zI, mSit, c_6, c_15, c_38], rfl⟩)
      · rw [hc, er35] at c_38
        refine lv_iconst (v := 1) hx hb dX10_maySit_41 (by decide) ?_
        refine lv_goto (tgt := 46) hx hb dX10_maySit_42 (by decide) ?_
        exact m_reti hx hb hr hlocks hAe hK hP hD hS (by first | rfl | decide) dX10_maySit_46 (⟨by simp [zI, mSit, c_6, c_15, c_38], rfl⟩)
def mSee (v : mS) (z p : Nat) : Int32 := if p < z then v.2.1 0 p &&& 255 else -1
set_option maxHeartbeats 4000000 in
set_option maxRecDepth 100000 in
/-- see(pp) -/
theorem ctX10_see (l : Launch) (D : va_G) (y : Nat → ClassId) (h : Nat) (a : Nat → Nat) (v : mS) (pp z : Nat) (hz : v.1 2 = nI z) (hz1 : z ≤ 1000) (hp1 : pp < 2 ^ 31) : mMi l yX10_see wsX10_see ({ frames := 0, cells := 0, slots := 0, locals := 0 }) D y h a v [.ref h, .int (nI pp)] (fun r v' => r = mSee v z pp ∧ v' = v) := by
  refine mMi_of (cc := cX10_see) (maxL := 2) (ret := (some .int)) rfl rfl (Nat.le_of_ble_eq_true rfl) ?_
  intro p e s m below meth c A ls hat hAe hl
  obtain ⟨hx, hb, hr, hml, hts, hown, hlocks, hK, hP, hD, hA⟩ := hat
  have hin : ∀ w ∈ wsX100, w ∈ wsX10_see := fun _ h9 => List.mem_cons_of_mem _ (List.mem_append_right _ h9)
  have hl : lv_has ls 2 [(0, .ref h), (1, .int (nI pp))] := hl
  have hS : va_S A s.heap s.heap [] := va_S.rf
  refine lv_iload_n hx hb dX10_see_0 rfl (lv_at hl 1 rfl) ?_
  refine lv_aload_n hx hb dX10_see_1 rfl (lv_at hl 0 rfl) ?_
  refine mg_size hx hb hts hin hown hK hP (by decide +kernel) dX10_see_2 ?_
  refine lv_icmp_ge (tgt := 21) hx hb dX10_see_5 (by decide) (fun c_5 => ?_) (fun c_5 => ?_)
  · rw [hz] at c_5
    have hlt : ¬ pp < z := by have := (nI_leI (by omega) (by omega)).mp c_5; omega
    refine lv_iconst (v := (-1)) hx hb dX10_see_21 (by decide) ?_
    exact m_reti hx hb hr hlocks hAe hK hP hD hS rfl dX10_see_22 (⟨by rw [mSee, if_neg hlt], rfl⟩)
  · rw [hz] at c_5
    have hlt : pp < z := Nat.not_le.mp (fun q => c_5 (nI_le q (by omega)))
    have hc : (nI pp).toNatClampNeg = pp := nI_clamp hp1
    refine lv_aload_n hx hb dX10_see_8 rfl (lv_at hl 0 rfl) ?_
    refine mg_tape hx hb hts hin hown hK hP (by decide +kernel) dX10_see_9 ?_
    refine lv_iload_n hx hb dX10_see_12 rfl (lv_at hl 1 rfl) ?_
    refine ml_tape hx hb hK hP (vp_in_nI (by omega) (by omega)) dX10_see_13 ?_
    refine lv_sipush (v := 255) hx hb dX10_see_14 (by decide) ?_
    refine lv_iand hx hb dX10_see_17 ?_
    refine lv_goto (tgt := 22) hx hb dX10_see_18 (by decide) ?_
    exact m_reti hx hb hr hlocks hAe hK hP hD hS rfl dX10_see_22 (⟨by rw [mSee, if_pos hlt, hc], rfl⟩)
set_option maxHeartbeats 4000000 in
set_option maxRecDepth 100000 in
/-- wrong(k) -/
theorem ctX10_wrong (l : Launch) (D : va_G) (y : Nat → ClassId) (h : Nat) (a : Nat → Nat) (v : mS) (k : Int32) : mMi l yX10_wrong wsX10_wrong ({ frames := 0, cells := 0, slots := 0, locals := 0 }) D y h a v [.ref h, .int k] (fun r v' => r = 0 ∧ v' = miU (miU v 8 k) 9 (v.1 5)) := by
  refine mMi_of (cc := cX10_wrong) (maxL := 2) (ret := (some .boolean)) rfl rfl (Nat.le_of_ble_eq_true rfl) ?_
  intro p e s m below meth c A ls hat hAe hl
  obtain ⟨hx, hb, hr, hml, hts, hown, hlocks, hK, hP, hD, hA⟩ := hat
  have hin : ∀ w ∈ wsX100, w ∈ wsX10_wrong := fun _ h9 => List.mem_cons_of_mem _ (List.mem_append_right _ h9)
  have hl : lv_has ls 2 [(0, .ref h), (1, .int k)] := hl
  have hS : va_S A s.heap s.heap [] := va_S.rf
  refine lv_aload_n hx hb dX10_wrong_0 rfl (lv_at hl 0 rfl) ?_
  refine lv_iload_n hx hb dX10_wrong_1 rfl (lv_at hl 1 rfl) ?_
  refine mp_faultKind hx hb hts hin hown hK hP hD hS (by decide +kernel) dX10_wrong_2 (fun H locs hP hD hS => ?_)
  refine lv_aload_n hx hb dX10_wrong_5 rfl (lv_at hl 0 rfl) ?_
  refine lv_aload_n hx hb dX10_wrong_6 rfl (lv_at hl 0 rfl) ?_
  refine mg_at hx hb hts hin hown hK hP (by decide +kernel) dX10_wrong_7 ?_
  refine mp_faultPlace hx hb hts hin hown hK hP hD hS (by decide +kernel) dX10_wrong_10 (fun H locs hP hD hS => ?_)
  refine lv_iconst (v := 0) hx hb dX10_wrong_13 (by decide) ?_
  exact m_reti hx hb hr hlocks hAe hK hP hD hS (by first | rfl | decide) dX10_wrong_14 (⟨rfl, rfl⟩)
theorem nar0 : vp_nar .boolean 0 = 0 := by decide
theorem nar1 : vp_nar .boolean 1 = 1 := by decide
def mShut (v : mS) : Nat → mS
  | 0 => v
  | k + 1 => mrU (mrU (mrU (mrU (mShut v k) 31 k 0) 32 k 0) 36 k 0) 37 k 0
set_option maxHeartbeats 4000000 in
set_option maxRecDepth 100000 in
/-- shutAll() -/
theorem ctX10_shutAll (l : Launch) (D : va_G) (y : Nat → ClassId) (h : Nat) (a : Nat → Nat) (v : mS) : mMv l yX10_shutAll wsX10_shutAll ({ frames := 0, cells := 0, slots := 0, locals := 0 }) D y h a v [.ref h] (fun v' => v' = mShut v 5) := by
  refine mMv_of (cc := cX10_shutAll) (maxL := 2) (ret := none) rfl rfl (Nat.le_of_ble_eq_true rfl) ?_
  intro p e s m below meth c A ls hat hAe hl
  obtain ⟨hx, hb, hr, hml, hts, hown, hlocks, hK, hP, hD, hA⟩ := hat
  have hin : ∀ w ∈ wsX100, w ∈ wsX10_shutAll := fun _ h9 => List.mem_cons_of_mem _ (List.mem_append_right _ h9)
  have hl : lv_has ls 2 [(0, .ref h)] := hl
  have hS : va_S A s.heap s.heap [] := va_S.rf
  refine lv_iconst (v := 0) hx hb dX10_shutAll_0 (by decide) ?_
  refine lv_istore_n (lv' := [(1, .int 0), (0, .ref h)]) hx hb dX10_shutAll_1 rfl hl (by decide) rfl (fun ls hl => ?_)
  have lp_2 : ∀ (n_2 : Nat) (k : Nat) (u : mS) (x1 : Int32), (k ≤ 5) → (6 ≤ k + n_2) → (x1 = nI k) → (u = mShut v k) → ∀ (H : Heap) (locs : List Loc), va_P D vwCl (mW h a y u) H → va_D A (mW h a y u) → va_S A s.heap H locs → ∀ (ls : Array Slot), lv_has ls 2 [(0, .ref h), (1, .int x1)] → W p l e (headSpec wsX10_shutAll ({ frames := 0, cells := 0, slots := 0, locals := 0 })).room s m ([.ref h] : List Value).toArray below meth c H locs 0 0 (MQ below (va_Qv (fun v' => v' = mShut v 5) (mEnd D y h a s.heap.size) A) ([.ref h] : List Value).toArray s 0 0 A) (F0 m 2 ls []) := by
    intro n_2
    induction n_2 with
    | zero =>
      intro k u x1 hk hf ex1 hu
      exact absurd hf (by omega)
    | succ n_2 ih_2 =>
      intro k u x1 hk hf ex1 hu H locs hP hD hS ls hl
      refine lv_iload_n hx hb dX10_shutAll_2 rfl (lv_at hl 1 rfl) ?_
      refine lv_iconst (v := 5) hx hb dX10_shutAll_3 (by decide) ?_
      refine lv_icmp_ge (tgt := 41) hx hb dX10_shutAll_4 (by decide) (fun c_4 => ?_) (fun c_4 => ?_)
      · have hkn : k = 5 := by rw [ex1] at c_4; have := (nI_leI (a := 5) (by omega) (by omega)).mp c_4; omega
        exact m_retv hx hb hr hlocks hAe hK hP hD hS dX10_shutAll_41 (by rw [hu, hkn])
      · have hkn : k < 5 := by rw [ex1] at c_4; exact Nat.not_le.mp (fun q => c_4 (nI_le (a := 5) q (by omega)))
        have hc : x1.toNatClampNeg = k := by rw [ex1]; exact nI_clamp (by omega)
        have hi : vp_in x1 5 := by rw [ex1]; exact vp_in_nI hkn (by omega)
        refine lv_aload_n hx hb dX10_shutAll_7 rfl (lv_at hl 0 rfl) ?_
        refine mg_courtSize hx hb hts hin hown hK hP (by decide +kernel) dX10_shutAll_8 ?_
        refine lv_iload_n hx hb dX10_shutAll_11 rfl (lv_at hl 1 rfl) ?_
        refine lv_iconst (v := 0) hx hb dX10_shutAll_12 (by decide) ?_
        refine ms_courtSize hx hb hK hP hD hS (hi) dX10_shutAll_13 (fun H locs hP hD hS => ?_)
        refine lv_aload_n hx hb dX10_shutAll_14 rfl (lv_at hl 0 rfl) ?_
        refine mg_sits hx hb hts hin hown hK hP (by decide +kernel) dX10_shutAll_15 ?_
        refine lv_iload_n hx hb dX10_shutAll_18 rfl (lv_at hl 1 rfl) ?_
        refine lv_iconst (v := 0) hx hb dX10_shutAll_19 (by decide) ?_
        refine ms_sits hx hb hK hP hD hS (hi) dX10_shutAll_20 (fun H locs hP hD hS => ?_)
        refine lv_aload_n hx hb dX10_shutAll_21 rfl (lv_at hl 0 rfl) ?_
        refine mg_isOpen hx hb hts hin hown hK hP (by decide +kernel) dX10_shutAll_22 ?_
        refine lv_iload_n hx hb dX10_shutAll_25 rfl (lv_at hl 1 rfl) ?_
        refine lv_iconst (v := 0) hx hb dX10_shutAll_26 (by decide) ?_
        refine ms_isOpen hx hb hK hP hD hS (hi) dX10_shutAll_27 (fun H locs hP hD hS => ?_)
        refine lv_aload_n hx hb dX10_shutAll_28 rfl (lv_at hl 0 rfl) ?_
        refine mg_hasSuit hx hb hts hin hown hK hP (by decide +kernel) dX10_shutAll_29 ?_
        refine lv_iload_n hx hb dX10_shutAll_32 rfl (lv_at hl 1 rfl) ?_
        refine lv_iconst (v := 0) hx hb dX10_shutAll_33 (by decide) ?_
        refine ms_hasSuit hx hb hK hP hD hS (hi) dX10_shutAll_34 (fun H locs hP hD hS => ?_)
        obtain ⟨x1_1, ex1_1⟩ : ∃ z : Int32, z = x1 + 1 := ⟨_, rfl⟩
        refine lv_iinc (v := x1_1) (lv' := [(1, .int x1_1), (0, .ref h)]) hx hb dX10_shutAll_35 hl (k := 1) rfl (by rw [ex1_1]; rfl) (by decide) rfl (fun ls hl => ?_)
        refine lv_goto (tgt := 2) hx hb dX10_shutAll_38 (by decide) ?_
        exact ih_2 (k + 1) _ _ (by omega) (by omega) (by rw [ex1_1, ex1]; exact nI_1 _) (by rw [hu, mShut, hc, nar0]) _ _ hP hD hS _ (lv_sub hl [1, 0] rfl)
  exact lp_2 6 0 v _ (Nat.zero_le _) (by omega) rfl rfl _ _ hP hD hS _ (lv_sub hl [1, 0] rfl)
