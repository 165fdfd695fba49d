/-! the reference: debts laid -/
def layI (c : Int32) (k : Nat) : Nat → mS → mS
  | 0, v => v
  | i + 1, v => if v.2.1 33 (25 * k + i) = c then mrU (layI c k i v) 35 (25 * k + i) 1 else layI c k i v
def layK (c : Int32) (ns : Nat → Nat) : Nat → mS → mS
  | 0, v => v
  | k + 1, v => if v.2.1 36 k = 0 then layK c ns k v else layI c k (ns k) (layK c ns k v)
/-- two states that differ in the slot 35 alone -/
def mKeep (u v : mS) : Prop := u.1 = v.1 ∧ (∀ j, j ≠ 35 → u.2.1 j = v.2.1 j) ∧ u.2.2 = v.2.2
theorem mKeep.rf (v : mS) : mKeep v v := ⟨rfl, fun _ _ => rfl, rfl⟩
theorem mKeep.put {u v : mS} (h : mKeep u v) (i : Nat) (x : Int32) : mKeep (mrU u 35 i x) v := ⟨h.1, fun j hj => by show va_up u.2.1 35 _ j = _; rw [va_up, if_neg hj]; exact h.2.1 j hj, h.2.2⟩
theorem mKeep.tr {u v w : mS} (h : mKeep u v) (g : mKeep v w) : mKeep u w := ⟨h.1.trans g.1, fun j hj => (h.2.1 j hj).trans (g.2.1 j hj), h.2.2.trans g.2.2⟩
theorem layI_keep (c : Int32) (k i : Nat) (v : mS) : mKeep (layI c k i v) v := by
  induction i with
  | zero => exact mKeep.rf v
  | succ i ih =>
    rw [layI]
    split
    · exact ih.put _ _
    · exact ih
theorem layK_keep (c : Int32) (ns : Nat → Nat) (k : Nat) (v : mS) : mKeep (layK c ns k v) v := by
  induction k with
  | zero => exact mKeep.rf v
  | succ k ih =>
    rw [layK]
    split
    · exact ih
    · exact (layI_keep c k (ns k) _).tr ih
def mLay (v : mS) (ns : Nat → Nat) (cc : Nat) (sum : Int32) : mS := layK (nI cc) ns 5 (mrU v 20 cc (v.2.1 20 cc + sum))
set_option maxHeartbeats 4000000 in
set_option maxRecDepth 100000 in
/-- lay(cc, sum) -/
theorem ctX10_lay (l : Launch) (D : va_G) (y : Nat → ClassId) (h : Nat) (a : Nat → Nat) (v : mS) (cc : Nat) (sum : Int32) (ns : Nat → Nat) (hc1 : cc < 150) (hns : ∀ k, k < 5 → v.2.1 32 k = nI (ns k) ∧ ns k ≤ 25) : mMv l yX10_lay wsX10_lay ({ frames := 0, cells := 0, slots := 0, locals := 0 }) D y h a v [.ref h, .int (nI cc), .int sum] (fun v' => v' = mLay v ns cc sum) := by
  refine mMv_of (cc := cX10_lay) (maxL := 5) (ret := none) rfl rfl (Nat.le_of_ble_eq_true rfl) ?_
  intro p e s m below meth c A ls hat hAe hl
  obtain ⟨hx, hb, hr, hml, hts, hown, hlocks, hK, hP, hD, hA⟩ := hat
  have hin : ∀ w ∈ wsX100, w ∈ wsX10_lay := fun _ h9 => List.mem_cons_of_mem _ (List.mem_append_right _ h9)
  have hl : lv_has ls 5 [(0, .ref h), (1, .int (nI cc)), (2, .int sum)] := hl
  have hS : va_S A s.heap s.heap [] := va_S.rf
  have hc : (nI cc).toNatClampNeg = cc := nI_clamp (by omega)
  have hi : vp_in (nI cc) 150 := vp_in_nI hc1 (by omega)
  obtain ⟨w, hw⟩ : ∃ z, z = mrU v 20 cc (v.2.1 20 cc + sum) := ⟨_, rfl⟩
  have hnw : ∀ k, k < 5 → w.2.1 32 k = nI (ns k) ∧ ns k ≤ 25 := fun k hk => by rw [hw]; exact hns k hk
  refine lv_aload_n hx hb dX10_lay_0 rfl (lv_at hl 0 rfl) ?_
  refine mg_owes hx hb hts hin hown hK hP (by decide +kernel) dX10_lay_1 ?_
  refine lv_iload_n hx hb dX10_lay_4 rfl (lv_at hl 1 rfl) ?_
  refine lv_dup2_11 hx hb dX10_lay_5 rfl rfl ?_
  refine ml_owes hx hb hK hP (hi) dX10_lay_6 ?_
  refine lv_iload_n hx hb dX10_lay_7 rfl (lv_at hl 2 rfl) ?_
  refine lv_iadd hx hb dX10_lay_8 ?_
  refine ms_owes hx hb hK hP hD hS (hi) dX10_lay_9 (fun H locs hP hD hS => ?_)
  refine lv_iconst (v := 0) hx hb dX10_lay_10 (by decide) ?_
  refine lv_istore_n (lv' := [(3, .int 0), (0, .ref h), (1, .int (nI cc)), (2, .int sum)]) hx hb dX10_lay_11 rfl hl (by decide) rfl (fun ls hl => ?_)
  have lp_12 : ∀ (n_12 : Nat) (k : Nat) (u : mS) (x3 : Int32), (k ≤ 5) → (6 ≤ k + n_12) → (x3 = nI k) → (u = layK (nI cc) ns k w) → ∀ (H : Heap) (locs : List Loc), va_P D vwCl (mW h a y u) H → va_D A (mW h a y u) → va_S A s.heap H locs → ∀ (ls : Array Slot), lv_has ls 5 [(0, .ref h), (1, .int (nI cc)), (2, .int sum), (3, .int x3)] → W p l e (headSpec wsX10_lay ({ frames := 0, cells := 0, slots := 0, locals := 0 })).room s m ([.ref h, .int (nI cc), .int sum] : List Value).toArray below meth c H locs 0 0 (MQ below (va_Qv (fun v' => v' = mLay v ns cc sum) (mEnd D y h a s.heap.size) A) ([.ref h, .int (nI cc), .int sum] : List Value).toArray s 0 0 A) (F0 m 12 ls []) := by
    intro n_12
    induction n_12 with
    | zero =>
      intro k u x3 hk hf ex3 hu
      exact absurd hf (by omega)
    | succ n_12 ih_12 =>
      intro k u x3 hk hf ex3 hu H locs hP hD hS ls hl
      have hku : mKeep u w := by rw [hu]; exact layK_keep _ _ _ _
      have hc3 : x3.toNatClampNeg = k := by rw [ex3]; exact nI_clamp (by omega)
      refine lv_iload_n hx hb dX10_lay_12 rfl (lv_at hl 3 rfl) ?_
      refine lv_iconst (v := 5) hx hb dX10_lay_13 (by decide) ?_
      refine lv_icmp_ge (tgt := 84) hx hb dX10_lay_14 (by decide) (fun c_14 => ?_) (fun c_14 => ?_)
      · have hkn : k = 5 := by rw [ex3] at c_14; have := (nI_leI (a := 5) (by omega) (by omega)).mp c_14; omega
        exact m_retv hx hb hr hlocks hAe hK hP hD hS dX10_lay_84 (by rw [hu, hkn, hw]; rfl)
      · have hk5 : k < 5 := by rw [ex3] at c_14; exact Nat.not_le.mp (fun q => c_14 (nI_le (a := 5) q (by omega)))
        have hn25 := (hnw k hk5).2
        have hi3 : vp_in x3 5 := by rw [ex3]; exact vp_in_nI hk5 (by omega)
        refine lv_aload_n hx hb dX10_lay_17 rfl (lv_at hl 0 rfl) ?_
        refine mg_isOpen hx hb hts hin hown hK hP (by decide +kernel) dX10_lay_18 ?_
        refine lv_iload_n hx hb dX10_lay_21 rfl (lv_at hl 3 rfl) ?_
        refine ml_isOpen hx hb hK hP (hi3) dX10_lay_22 ?_
        refine lv_if_ne (tgt := 29) hx hb dX10_lay_23 (by decide) (fun c_23 => ?_) (fun c_23 => ?_)
        · have hop : ¬ w.2.1 36 k = 0 := by rw [hc3, hku.2.1 36 (by decide)] at c_23; exact c_23
          refine lv_iconst (v := 0) hx hb dX10_lay_29 (by decide) ?_
          refine lv_istore (lv' := [(4, .int 0), (0, .ref h), (1, .int (nI cc)), (2, .int sum), (3, .int x3)]) hx hb dX10_lay_30 hl (by decide) rfl (fun ls hl => ?_)
          have lp_32 : ∀ (n_32 : Nat) (i : Nat) (u' : mS) (x4 : Int32), (i ≤ ns k) → (ns k + 1 ≤ i + n_32) → (x4 = nI i) → (u' = layI (nI cc) k i u) → ∀ (H : Heap) (locs : List Loc), va_P D vwCl (mW h a y u') H → va_D A (mW h a y u') → va_S A s.heap H locs → ∀ (ls : Array Slot), lv_has ls 5 [(0, .ref h), (1, .int (nI cc)), (2, .int sum), (3, .int x3), (4, .int x4)] → W p l e (headSpec wsX10_lay ({ frames := 0, cells := 0, slots := 0, locals := 0 })).room s m ([.ref h, .int (nI cc), .int sum] : List Value).toArray below meth c H locs 0 0 (MQ below (va_Qv (fun v' => v' = mLay v ns cc sum) (mEnd D y h a s.heap.size) A) ([.ref h, .int (nI cc), .int sum] : List Value).toArray s 0 0 A) (F0 m 32 ls []) := by
            intro n_32
            induction n_32 with
            | zero =>
              intro i u' x4 hik hif ex4 hu'
              exact absurd hif (by omega)
            | succ n_32 ih_32 =>
              intro i u' x4 hik hif ex4 hu' H locs hP hD hS ls hl
              have hku' : mKeep u' u := by rw [hu']; exact layI_keep _ _ _ _
              have hs2 : u'.2.1 32 k = nI (ns k) := by rw [hku'.2.1 32 (by decide), hku.2.1 32 (by decide)]; exact (hnw k hk5).1
              have hcx0 : i < ns k → ((25 : Int32) * x3 + x4).toNatClampNeg = 25 * k + i := fun hi9 => by rw [ex3, ex4]; exact ix25c hk5 (by omega)
              refine lv_iload hx hb dX10_lay_32 (lv_at hl 4 rfl) ?_
              refine lv_aload_n hx hb dX10_lay_34 rfl (lv_at hl 0 rfl) ?_
              refine mg_sits hx hb hts hin hown hK hP (by decide +kernel) dX10_lay_35 ?_
              refine lv_iload_n hx hb dX10_lay_38 rfl (lv_at hl 3 rfl) ?_
              refine ml_sits hx hb hK hP (hi3) dX10_lay_39 ?_
              refine lv_icmp_ge (tgt := 78) hx hb dX10_lay_40 (by decide) (fun c_40 => ?_) (fun c_40 => ?_)
              · have hin2 : i = ns k := by rw [hc3, hs2, ex4] at c_40; have := (nI_leI (by omega) (by omega)).mp c_40; omega
                obtain ⟨x3_1, ex3_1⟩ : ∃ z : Int32, z = x3 + 1 := ⟨_, rfl⟩
                refine lv_iinc (v := x3_1) (lv' := [(3, .int x3_1), (0, .ref h), (1, .int (nI cc)), (2, .int sum), (4, .int x4)]) hx hb dX10_lay_78 hl (k := 3) rfl (by rw [ex3_1]; rfl) (by decide) rfl (fun ls hl => ?_)
                refine lv_goto (tgt := 12) hx hb dX10_lay_81 (by decide) ?_
                exact ih_12 (k + 1) _ _ (by omega) (by omega) (by rw [ex3_1, ex3]; exact nI_1 _) (by rw [hu', hin2, hu, layK, if_neg hop]) _ _ hP hD hS _ (lv_sub hl [1, 2, 3, 0] rfl)
              · have hin2 : i < ns k := by rw [hc3, hs2, ex4] at c_40; exact Nat.not_le.mp (fun q => c_40 (nI_le q (by omega)))
                have hcx := hcx0 hin2
                have hix : vp_in ((25 : Int32) * x3 + x4) 125 := by rw [ex3, ex4]; exact ix25i hk5 (by omega)
                refine lv_aload_n hx hb dX10_lay_43 rfl (lv_at hl 0 rfl) ?_
                refine mg_seats hx hb hts hin hown hK hP (by decide +kernel) dX10_lay_44 ?_
                refine lv_bipush (v := 25) hx hb dX10_lay_47 (by decide) ?_
                refine lv_iload_n hx hb dX10_lay_49 rfl (lv_at hl 3 rfl) ?_
                refine lv_imul hx hb dX10_lay_50 ?_
                refine lv_iload hx hb dX10_lay_51 (lv_at hl 4 rfl) ?_
                refine lv_iadd hx hb dX10_lay_53 ?_
                refine ml_seats hx hb hK hP (hix) dX10_lay_54 ?_
                refine lv_iload_n hx hb dX10_lay_55 rfl (lv_at hl 1 rfl) ?_
                refine lv_icmp_ne (tgt := 72) hx hb dX10_lay_56 (by decide) (fun c_56 => ?_) (fun c_56 => ?_)
                · rw [hcx, hku'.2.1 33 (by decide)] at c_56
                  obtain ⟨x4_2, ex4_2⟩ : ∃ z : Int32, z = x4 + 1 := ⟨_, rfl⟩
                  refine lv_iinc (v := x4_2) (lv' := [(4, .int x4_2), (0, .ref h), (1, .int (nI cc)), (2, .int sum), (3, .int x3)]) hx hb dX10_lay_72 hl (k := 4) rfl (by rw [ex4_2]; rfl) (by decide) rfl (fun ls hl => ?_)
                  refine lv_goto (tgt := 32) hx hb dX10_lay_75 (by decide) ?_
                  exact ih_32 (i + 1) _ _ (by omega) (by omega) (by rw [ex4_2, ex4]; exact nI_1 _) (by rw [hu', layI, if_neg c_56]) _ _ hP hD hS _ (lv_sub hl [1, 2, 3, 4, 0] rfl)
                · rw [hcx, hku'.2.1 33 (by decide)] at c_56
                  refine lv_aload_n hx hb dX10_lay_59 rfl (lv_at hl 0 rfl) ?_
                  refine mg_isStruck hx hb hts hin hown hK hP (by decide +kernel) dX10_lay_60 ?_
                  refine lv_bipush (v := 25) hx hb dX10_lay_63 (by decide) ?_
                  refine lv_iload_n hx hb dX10_lay_65 rfl (lv_at hl 3 rfl) ?_
                  refine lv_imul hx hb dX10_lay_66 ?_
                  refine lv_iload hx hb dX10_lay_67 (lv_at hl 4 rfl) ?_
                  refine lv_iadd hx hb dX10_lay_69 ?_
                  refine lv_iconst (v := 1) hx hb dX10_lay_70 (by decide) ?_
                  refine ms_isStruck hx hb hK hP hD hS (hix) dX10_lay_71 (fun H locs hP hD hS => ?_)
                  obtain ⟨x4_3, ex4_3⟩ : ∃ z : Int32, z = x4 + 1 := ⟨_, rfl⟩
                  refine lv_iinc (v := x4_3) (lv' := [(4, .int x4_3), (0, .ref h), (1, .int (nI cc)), (2, .int sum), (3, .int x3)]) hx hb dX10_lay_72 hl (k := 4) rfl (by rw [ex4_3]; rfl) (by decide) rfl (fun ls hl => ?_)
                  refine lv_goto (tgt := 32) hx hb dX10_lay_75 (by decide) ?_
                  exact ih_32 (i + 1) _ _ (by omega) (by omega) (by rw [ex4_3, ex4]; exact nI_1 _) (by rw [hcx, nar1, hu', layI, if_pos (by simpa using c_56)]) _ _ hP hD hS _ (lv_sub hl [1, 2, 3, 4, 0] rfl)
          exact lp_32 (ns k + 1) 0 _ _ (Nat.zero_le _) (by omega) rfl rfl _ _ hP hD hS _ (lv_sub hl [1, 2, 3, 4, 0] rfl)
        · have hop : w.2.1 36 k = 0 := by rw [hc3, hku.2.1 36 (by decide)] at c_23; simpa using c_23
          refine lv_goto (tgt := 78) hx hb dX10_lay_26 (by decide) ?_
          obtain ⟨x3_4, ex3_4⟩ : ∃ z : Int32, z = x3 + 1 := ⟨_, rfl⟩
          refine lv_iinc (v := x3_4) (lv' := [(3, .int x3_4), (0, .ref h), (1, .int (nI cc)), (2, .int sum)]) hx hb dX10_lay_78 hl (k := 3) rfl (by rw [ex3_4]; rfl) (by decide) rfl (fun ls hl => ?_)
          refine lv_goto (tgt := 12) hx hb dX10_lay_81 (by decide) ?_
          exact ih_12 (k + 1) _ _ (by omega) (by omega) (by rw [ex3_4, ex3]; exact nI_1 _) (by rw [hu, layK, if_pos hop]) _ _ hP hD hS _ (lv_sub hl [1, 2, 3, 0] rfl)
  exact lp_12 6 0 _ _ (Nat.zero_le _) (by omega) rfl (by rw [hw, layK, hc]) _ _ hP hD hS _ (lv_sub hl [1, 2, 3, 0] rfl)
