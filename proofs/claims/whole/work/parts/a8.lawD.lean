/-! the law's loop -/
def R_law : String := "LotMachineLaw"
def lw_P (b : Addr) (xs : List Int32) (args : Array Value) (s : State) : Prop := args = #[.ref b] ∧ s.IntsAt b xs ∧ xs.length ≤ 3072 ∧ (Jvm.Cond.and given_1 narrow_1).before args s = true
def lw_Q (_ : Array Value) (s : State) (o : Outcome) (t : State) : Prop := o = .returned (some (.int 1)) ∧ Framed s o t [] 600000 7302250
def lw_Z (below : List Frame) (a : Array Value) (s : State) : State → Prop := fun t => ∃ o, t.status = .running ∧ Ended t below o ∧ lw_Q a s o t
/-- the law's own end, with 1 on the stack, nothing written that was there before, its room as the claim has it -/
theorem lw_ret {p : Program} {l : Launch} {e : Env} {s : State} {m : MethodId} {below : List Frame} {meth : Method} {c : Code} {b : Nat} (hx : p.tables.exec = Jvm.exec) (hb : c.code = code) (hr : meth.sig.returnType = ret) (hlocks : meth.locks = false) {pc : Nat} {H : Heap} {ls : Array Slot} (hdg : decode code pc = .ok (.ireturn, 1)) : W p l e room_1 s m #[Value.ref b] below meth c H [] 600000 7302250 (lw_Z below #[Value.ref b] s) (F0 m pc ls [.int 1]) := by
  intro T hT X
  obtain ⟨fs, hret, hrun, hended, hW, hframe⟩ := X.leave (v := some (.int 1)) (hlocks := hlocks) (fun h => by rw [hr] at h; cases h)
  have hmeth' : T.vm.method? m = some meth := X.method'
  refine ⟨T.setFrames fs, ?_, .returned (some (.int 1)), hrun, hended, rfl, ⟨_, rfl⟩, hW, hframe⟩
  jvm_step X.here [X.here.top, hx, hb, hdg, hmeth', hr, ret, narrow_b1]
  (try refine ⟨rfl, ?_⟩); (try refine ⟨rfl, ?_⟩)
  first | (intro acts; rw [hret _ acts rfl rfl rfl]) | rw [hret _ _ rfl rfl rfl]
  exact Steps.refl _
/-- what holds at the law's entry: the machine, the code, the tables' words (any of lw_tbl by 'hts w (by decide +kernel)'), the script of L ints xs at the cell b, what the Statement gives of the start (any of its parts by flat_of_before) -/
def lw_At (p : Program) (s : State) (m : MethodId) (meth : Method) (c : Code) (b L : Nat) (xs : Nat → Int32) : Prop :=
  p.tables.exec = Jvm.exec ∧ c.code = code ∧ meth.sig.returnType = ret ∧ c.maxLocals = 4 ∧ s.vm.findClass R_law = some m.cls ∧ (∀ w ∈ lw_tbl, w.before #[Value.ref b] s = true) ∧ va_X b L xs s s.heap ∧ b < s.heap.size ∧ meth.locks = false ∧ (Jvm.Cond.and given_1 narrow_1).before #[Value.ref b] s = true
theorem and31 (w : Int32) : ∃ k, k < 32 ∧ w &&& 31 = nI k := by
  refine ⟨(w.toBitVec &&& 31#32).toNat, ?_, ?_⟩
  · rw [BitVec.toNat_and]
    exact Nat.lt_of_le_of_lt Nat.and_le_right (by decide)
  · show w &&& 31 = Int32.ofNat _
    rw [← Int32.toBitVec_inj]
    show w.toBitVec &&& 31#32 = BitVec.ofNat 32 _
    rw [BitVec.ofNat_toNat, BitVec.setWidth_eq]
theorem l6_lt {L j : Nat} (hL : L ≤ 3072) (hj : 6 * j ≤ L) : Int32.ofNat L - 6 < nI (6 * j) ↔ L < 6 * j + 6 := by
  by_cases h6 : 6 ≤ L
  · have e : Int32.ofNat L - 6 = nI (L - 6) := by
      show nI L - nI 6 = _
      rw [show nI L = nI (L - 6) + nI 6 by rw [nI_add, Nat.sub_add_cancel h6], Int32.add_sub_cancel]
    rw [e, nI_ltI (by omega) (by omega)]
    omega
  · have e0 : j = 0 := by omega
    subst e0
    have h9 : L = 0 ∨ L = 1 ∨ L = 2 ∨ L = 3 ∨ L = 4 ∨ L = 5 := by omega
    rcases h9 with rfl | rfl | rfl | rfl | rfl | rfl <;> exact ⟨fun _ => by decide, fun _ => by decide⟩
section LP
variable {p : Program} {l : Launch} {e : Env} {s : State} {m : MethodId} {below : List Frame} {meth : Method} {c : Code} {Q : State → Prop}
variable {D : va_G} {A : Nat → Prop} {y : Nat → ClassId} {qs : Nat → Nat × Nat} {q qv b L : Nat} {xs : Nat → Int32} {h : Nat} {a : Nat → Nat} {h9 : Nat}
set_option maxHeartbeats 4000000 in
theorem law_switch (C : lawC p s m c b L xs D y A qs q qv) {H : Heap} {locs : List Loc} {ls : Array Slot} {cells slots : Nat} {i : Nat} (hi : i + 6 ≤ L) {xi : Int32} (ei : xi = nI i) (hI : lawI s D y A h a h9 H locs) (hl : lv_has ls 4 [(0, .ref b), (1, .ref h9), (2, .ref h), (3, .int xi)]) (hc : cells + 2 ≤ 600000) (hs : slots + 53 ≤ 7302250)
    (kk : ∀ (H : Heap) (locs : List Loc) (ls : Array Slot), lawI s D y A h a h9 H locs → lv_has ls 4 [(0, .ref b), (1, .ref h9), (2, .ref h), (3, .int xi)] → W p l e room_1 s m #[Value.ref b] below meth c H locs (cells + 2) (slots + 53) Q (F0 m 1157 ls [])) : W p l e room_1 s m #[Value.ref b] below meth c H locs cells slots Q (F0 m 27 ls []) := by
  obtain ⟨hx, hb, hml, hown, hts, hX, hbl, hbA, hK, hE, hNN, hSE, hRR, hA, hL⟩ := id C
  obtain ⟨ad, x, R, v, n, T, e0, hR, hr, hw, hS⟩ := id hI
  refine lv_aload_n hx hb dL_law_27 rfl (lv_at hl 0 rfl) ?_
  refine lv_iload_n hx hb dL_law_28 rfl (lv_at hl 3 rfl) ?_
  refine va_sld hx hb hX hbl hbA hS (by rw [ei]; exact vp_in_nI (show i < L by omega) (by omega)) dL_law_29 ?_
  refine lv_bipush (v := 31) hx hb dL_law_30 (by decide) ?_
  refine lv_iand hx hb dL_law_32 ?_
  obtain ⟨k, hk, ek⟩ := and31 (xs xi.toNatClampNeg)
  rw [ek]
  have hcase : k = 0 ∨ k = 1 ∨ k = 2 ∨ k = 3 ∨ k = 4 ∨ k = 5 ∨ k = 6 ∨ k = 7 ∨ k = 8 ∨ k = 9 ∨ k = 10 ∨ k = 11 ∨ k = 12 ∨ k = 13 ∨ k = 14 ∨ k = 15 ∨ k = 16 ∨ k = 17 ∨ k = 18 ∨ k = 19 ∨ k = 20 ∨ k = 21 ∨ k = 22 ∨ k = 23 ∨ k = 24 ∨ k = 25 ∨ k = 26 ∨ k = 27 ∨ 28 ≤ k := by omega
  rcases hcase with rfl | rfl | rfl | rfl | rfl | rfl | rfl | rfl | rfl | rfl | rfl | rfl | rfl | rfl | rfl | rfl | rfl | rfl | rfl | rfl | rfl | rfl | rfl | rfl | rfl | rfl | rfl | rfl | h28
  · exact lv_tableIn (tgt := 160) hx hb dL_law_33 (by decide) (by decide) rfl (by decide) (lc_feed C hi ei hI hl hc hs kk)
  · exact lv_tableIn (tgt := 223) hx hb dL_law_33 (by decide) (by decide) rfl (by decide) (lc_end C hi ei hI hl hc hs kk)
  · exact lv_tableIn (tgt := 246) hx hb dL_law_33 (by decide) (by decide) rfl (by decide) (lc_laws C hi ei hI hl hc hs kk)
  · exact lv_tableIn (tgt := 269) hx hb dL_law_33 (by decide) (by decide) rfl (by decide) (lc_fault C hi ei hI hl hc hs kk)
  · exact lv_tableIn (tgt := 292) hx hb dL_law_33 (by decide) (by decide) rfl (by decide) (lc_law C hi ei hI hl hc hs kk)
  · exact lv_tableIn (tgt := 325) hx hb dL_law_33 (by decide) (by decide) rfl (by decide) (lc_citizen C hi ei hI hl hc hs kk)
  · exact lv_tableIn (tgt := 368) hx hb dL_law_33 (by decide) (by decide) rfl (by decide) (lc_swear C hi ei hI hl hc hs kk)
  · exact lv_tableIn (tgt := 391) hx hb dL_law_33 (by decide) (by decide) rfl (by decide) (lc_owe C hi ei hI hl hc hs kk)
  · exact lv_tableIn (tgt := 434) hx hb dL_law_33 (by decide) (by decide) rfl (by decide) (lc_pay C hi ei hI hl hc hs kk)
  · exact lv_tableIn (tgt := 467) hx hb dL_law_33 (by decide) (by decide) rfl (by decide) (lc_about C hi ei hI hl hc hs kk)
  · exact lv_tableIn (tgt := 500) hx hb dL_law_33 (by decide) (by decide) rfl (by decide) (lc_now C hi ei hI hl hc hs kk)
  · exact lv_tableIn (tgt := 523) hx hb dL_law_33 (by decide) (by decide) rfl (by decide) (lc_come C hi ei hI hl hc hs kk)
  · exact lv_tableIn (tgt := 546) hx hb dL_law_33 (by decide) (by decide) rfl (by decide) (lc_rows C hi ei hI hl hc hs kk)
  · exact lv_tableIn (tgt := 569) hx hb dL_law_33 (by decide) (by decide) rfl (by decide) (lc_draws C hi ei hI hl hc hs kk)
  · exact lv_tableIn (tgt := 603) hx hb dL_law_33 (by decide) (by decide) rfl (by decide) (lc_draw C hi ei hI hl hc hs kk)
  · exact lv_tableIn (tgt := 676) hx hb dL_law_33 (by decide) (by decide) rfl (by decide) (lc_chances C hi ei hI hl hc hs kk)
  · exact lv_tableIn (tgt := 710) hx hb dL_law_33 (by decide) (by decide) rfl (by decide) (lc_bribed C hi ei hI hl hc hs kk)
  · exact lv_tableIn (tgt := 794) hx hb dL_law_33 (by decide) (by decide) rfl (by decide) (lc_chosen C hi ei hI hl hc hs kk)
  · exact lv_tableIn (tgt := 817) hx hb dL_law_33 (by decide) (by decide) rfl (by decide) (lc_open C hi ei hI hl hc hs kk)
  · exact lv_tableIn (tgt := 850) hx hb dL_law_33 (by decide) (by decide) rfl (by decide) (lc_lot C hi ei hI hl hc hs kk)
  · exact lv_tableIn (tgt := 873) hx hb dL_law_33 (by decide) (by decide) rfl (by decide) (lc_seat C hi ei hI hl hc hs kk)
  · exact lv_tableIn (tgt := 906) hx hb dL_law_33 (by decide) (by decide) rfl (by decide) (lc_suit C hi ei hI hl hc hs kk)
  · exact lv_tableIn (tgt := 969) hx hb dL_law_33 (by decide) (by decide) rfl (by decide) (lc_speak C hi ei hI hl hc hs kk)
  · exact lv_tableIn (tgt := 1012) hx hb dL_law_33 (by decide) (by decide) rfl (by decide) (lc_witness C hi ei hI hl hc hs kk)
  · exact lv_tableIn (tgt := 1035) hx hb dL_law_33 (by decide) (by decide) rfl (by decide) (lc_disc C hi ei hI hl hc hs kk)
  · exact lv_tableIn (tgt := 1078) hx hb dL_law_33 (by decide) (by decide) rfl (by decide) (lc_close C hi ei hI hl hc hs kk)
  · exact lv_tableIn (tgt := 1101) hx hb dL_law_33 (by decide) (by decide) rfl (by decide) (lc_court C hi ei hI hl hc hs kk)
  · exact lv_tableIn (tgt := 1134) hx hb dL_law_33 (by decide) (by decide) rfl (by decide) (lc_count C hi ei hI hl hc hs kk)
  · refine lv_tableOut (tgt := 1157) hx hb dL_law_33 (Or.inr ?_) (by decide) ?_
    · rw [show (nI k).toInt = (k : Int) from Int32.toInt_ofNat_of_lt (by omega)]
      omega
    · exact W.widen (by omega) (by omega) (kk H locs ls hI hl)
theorem law_loop (C : lawC p s m c b L xs D y A qs q qv) (hA2 : ∀ q, A q → s.heap.size ≤ q) (hrt : meth.sig.returnType = ret) (hlk : meth.locks = false) : ∀ (f j : Nat), 6 * j ≤ L → L + 1 ≤ 6 * j + f → ∀ (xi : Int32), xi = nI (6 * j) → ∀ (H : Heap) (locs : List Loc) (ls : Array Slot), lawI s D y A h a h9 H locs → lv_has ls 4 [(0, .ref b), (1, .ref h9), (2, .ref h), (3, .int xi)] → W p l e room_1 s m #[Value.ref b] below meth c H locs (100 + 2 * j) (9400 + 53 * j) (lw_Z below #[Value.ref b] s) (F0 m 18 ls []) := by
  obtain ⟨hx, hb, hml, hown, hts, hX, hbl, hbA, hK, hE, hNN, hSE, hRR, hA, hL⟩ := id C
  intro f
  induction f with
  | zero => intro j hj hf; exact absurd hf (by omega)
  | succ f ih =>
    intro j hj hf xi ei H locs ls hI hl
    obtain ⟨ad, x, R, v, n, T, e0, hR, hr, hw, hS⟩ := id hI
    refine lv_iload_n hx hb dL_law_18 rfl (lv_at hl 3 rfl) ?_
    refine lv_aload_n hx hb dL_law_19 rfl (lv_at hl 0 rfl) ?_
    refine va_slen hx hb hX hbl hbA hS dL_law_20 ?_
    refine lv_bipush (v := 6) hx hb dL_law_21 (by decide) ?_
    refine lv_isub hx hb dL_law_23 ?_
    refine lv_icmp_gt (tgt := 1163) hx hb dL_law_24 (by decide) (fun c9 => ?_) (fun c9 => ?_)
    · refine lv_iconst (v := 1) hx hb dL_law_1163 (by decide) ?_
      refine va_forget (fun q9 h9 => hA2 _ (hS.2.2 q9 h9)) ?_
      exact W.widen (by omega) (by omega) (lw_ret hx hb hrt hlk dL_law_1164)
    · have hi : 6 * j + 6 ≤ L := by
        rw [ei] at c9
        have : ¬ L < 6 * j + 6 := fun z => c9 ((l6_lt hL hj).mpr z)
        omega
      refine law_switch C hi ei hI hl (by omega) (by omega) (fun H locs ls hI hl => ?_)
      obtain ⟨xi2, ex2⟩ : ∃ z : Int32, z = xi + 6 := ⟨_, rfl⟩
      refine lv_iinc (v := xi2) (lv' := [(3, .int xi2), (0, .ref b), (1, .ref h9), (2, .ref h)]) hx hb dL_law_1157 hl (k := 3) rfl (by rw [ex2]; rfl) (by decide) rfl (fun ls hl => ?_)
      refine lv_goto (tgt := 18) hx hb dL_law_1160 (by decide) ?_
      have e2 : xi2 = nI (6 * (j + 1)) := by rw [ex2, ei, show (6 : Int32) = nI 6 from rfl, nI_add]; rfl
      exact ih (j + 1) (by omega) (by omega) xi2 e2 H locs ls hI (lv_sub hl [1, 2, 3, 0] rfl)
end LP
