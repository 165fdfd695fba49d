/-! the landed program: Dawn -/
section SN
variable {p : Program} {l : Launch} {e : Env} {R : Room} {s : State} {m : MethodId} {args : Array Value} {below : List Frame} {meth : Method} {c : Code} {H : Heap} {locs : List Loc} {cells slots : Nat} {Q : State → Prop}
variable {cc : ByteArray} {pc : Nat} {ls : Array Slot} {rest st : List Value} {D : va_G} {A : Nat → Prop} {cl : List vw_C} {wd : va_W} {H0 : Heap} {Ts ws : List Cond} {own host : String}
variable {ym : MethodName} {bytes : ByteArray} {maxL nL n index : Nat} {ret : Option FieldType} {rm : Room} {As : List Value}
theorem sn_calll {r : Int64} (S : CallFix p m c cc nL s args Ts own) (hM : sMl l ym ws rm As r) (cw : va_CN R s args own index ym host bytes maxL ret ws rm 0 0 n ∧ (Cond.static ym).before args s = true ∧ True) (hP : va_P D cl wd H) (hS : va_S A H0 H locs) (hn : As.length = n) (hsz : ls.size = nL) (hst : st = As.reverse ++ rest) (hW : (rest.map fun v => v.category).sum ≤ 8) (hdg : decode cc pc = .ok (.invokestatic index, 3)) (hf : cells ≤ R.cells ∧ slots ≤ R.slots)
    (kk : ∀ (H1 : Heap) (locs1 : List Loc), va_P D cl wd H1 → va_S A H0 H1 locs1 → W p l e R s m args below meth c H1 locs1 cells slots Q (F0 m (pc + 3) ls (.long r :: rest))) : W p l e R s m args below meth c H locs cells slots Q (F0 m pc ls st) := by
  refine va_calll (va_runSN (As := As) (rest := rest) S hM cw ⟨fun a U g mk q => ⟨q.1, trivial⟩, fun U hU hW => ⟨rfl, trivial⟩⟩ rfl hn hsz hst (lv_room hW) hdg hf) hS (fun q _ h => h.elim) (fun q h => h.elim) (fun r' u t H1 locs1 ht hvm hw hB hz hk hS => ?_)
  subst hw
  exact kk H1 locs1 (hP.kept (fun k x hx => hk x.1 (hP k x hx).lt id)) hS
theorem sn_calli {r : Int32} (S : CallFix p m c cc nL s args Ts own) (hM : sMi l ym ws rm As r) (cw : va_CN R s args own index ym host bytes maxL ret ws rm 0 0 n ∧ (Cond.static ym).before args s = true ∧ True) (hP : va_P D cl wd H) (hS : va_S A H0 H locs) (hn : As.length = n) (hsz : ls.size = nL) (hst : st = As.reverse ++ rest) (hW : (rest.map fun v => v.category).sum ≤ 8) (hdg : decode cc pc = .ok (.invokestatic index, 3)) (hf : cells ≤ R.cells ∧ slots ≤ R.slots)
    (kk : ∀ (H1 : Heap) (locs1 : List Loc), va_P D cl wd H1 → va_S A H0 H1 locs1 → W p l e R s m args below meth c H1 locs1 cells slots Q (F0 m (pc + 3) ls (.int r :: rest))) : W p l e R s m args below meth c H locs cells slots Q (F0 m pc ls st) := by
  refine va_calli (va_runSN (As := As) (rest := rest) S hM cw ⟨fun a U g mk q => ⟨q.1, trivial⟩, fun U hU hW => ⟨rfl, trivial⟩⟩ rfl hn hsz hst (lv_room hW) hdg hf) hS (fun q _ h => h.elim) (fun q h => h.elim) (fun r' u t H1 locs1 ht hvm hw hB hz hk hS => ?_)
  subst hw
  exact kk H1 locs1 (hP.kept (fun k x hx => hk x.1 (hP k x hx).lt id)) hS
end SN
def fOpt (p : Nat → Bool) (n : Nat) (f : Nat → Nat) : Option Nat := if fstn p n 0 < n then some (f (fstn p n 0)) else none
theorem fOpt_hit {p : Nat → Bool} {n j : Nat} {f : Nat → Nat} (h0 : ∀ i, i < j → p i = false) (hj : j < n) (h : p j = true) : fOpt p n f = some (f j) := by
  have e : fstn p n 0 = j := fstn_hit n 0 j (fun i _ hi => h0 i hi) (Nat.zero_le _) (by omega) h
  rw [fOpt, e, if_pos hj]
theorem fOpt_miss {p : Nat → Bool} {n : Nat} {f : Nat → Nat} (h0 : ∀ i, i < n → p i = false) : fOpt p n f = none := by
  have e : fstn p n 0 = n := (fstn_miss n 0 (fun i _ hi => h0 i (by omega))).trans (by omega)
  rw [fOpt, e, if_neg (Nat.lt_irrefl _)]
set_option maxHeartbeats 4000000 in
set_option maxRecDepth 100000 in
/-- isTribe(t) -/
theorem ctX9_isTribe (l : Launch) (t : Int32) : sMi l yX9_isTribe wsX9_isTribe ({ frames := 0, cells := 0, slots := 0, locals := 0 }) [.int t] (zI (isT t)) := by
  refine sMi_of (cc := cX9_isTribe) (maxL := 1) (ret := (some .boolean)) (by decide) rfl (Nat.le_of_ble_eq_true rfl) ?_
  intro p e s m below meth c ls hat hl
  obtain ⟨hx, hb, hr, hml, hts, hown, hlocks⟩ := hat
  have hl : lv_has ls 1 [(0, .int t)] := hl
  have hS : va_S (fun _ => False) s.heap s.heap [] := va_S.rf
  have hP : va_P (D := (fun _ => m.cls, fun _ _ => 0)) (cl := vwCl) [] s.heap := fun k q h => by simp at h
  refine lv_iload_n hx hb dX9_isTribe_0 rfl (lv_at hl 0 rfl) ?_
  refine lv_if_lt (tgt := 14) hx hb dX9_isTribe_1 (by decide) (fun c_1 => ?_) (fun c_1 => ?_)
  · have g1 : isT t = false := isC_neg (n := 10) (by omega) c_1
    refine lv_iconst (v := 0) hx hb dX9_isTribe_14 (by decide) ?_
    exact s_reti hx hb hr hlocks (by first | rfl | decide) hS dX9_isTribe_15 (by rw [g1]; rfl)
  · refine lv_iload_n hx hb dX9_isTribe_4 rfl (lv_at hl 0 rfl) ?_
    refine lv_bipush (v := 10) hx hb dX9_isTribe_5 (by decide) ?_
    refine lv_icmp_ge (tgt := 14) hx hb dX9_isTribe_7 (by decide) (fun c_7 => ?_) (fun c_7 => ?_)
    · have g1 : isT t = false := isC_ge (n := 10) (by omega) c_7
      refine lv_iconst (v := 0) hx hb dX9_isTribe_14 (by decide) ?_
      exact s_reti hx hb hr hlocks (by first | rfl | decide) hS dX9_isTribe_15 (by rw [g1]; rfl)
    · obtain ⟨g1, g2, g3⟩ := isC_lt (n := 10) (by omega) c_1 c_7
      have g1 : isT t = true := g1
      refine lv_iconst (v := 1) hx hb dX9_isTribe_10 (by decide) ?_
      refine lv_goto (tgt := 15) hx hb dX9_isTribe_11 (by decide) ?_
      exact s_reti hx hb hr hlocks (by first | rfl | decide) hS dX9_isTribe_15 (by rw [g1]; rfl)
set_option maxHeartbeats 4000000 in
set_option maxRecDepth 100000 in
/-- Dawn.hasDrawn -/
theorem ctX3_hasDrawn (l : Launch) (D : va_G) (y : Nat → ClassId) (ad : Nat → Nat → Nat) (x : cS) (R : List (Nat × Nat)) (qs : Nat → Nat × Nat) (nC nT : Nat) (hR : cHas R nC nT) (t : Int32) (tt : Nat) (ht : t = nI tt) (htt : tt < 10) : cMi l yX3_hasDrawn wsX3_hasDrawn ({ frames := 1, cells := 0, slots := 0, locals := 20 }) D y ad x R qs [.ref (ad 9 0), .int t] (fun r x' => r = zI (!decide (x.1 12 0 tt = 0)) ∧ x' = x) := by
  refine cMi_of (cc := cX3_hasDrawn) (maxL := 2) (ret := (some .boolean)) (by decide) rfl (Nat.le_of_ble_eq_true rfl) ?_
  intro p e s m below meth c A ls hat hAe hl
  obtain ⟨hx, hb, hr, hml, hts, hown, hlocks, hK, hP, hD, hA, hE⟩ := hat
  have hown : s.vm.findClass RX3 = some m.cls := hown
  have hin3 : ∀ w ∈ wsX30, w ∈ wsX3_hasDrawn := fun _ h9 => List.mem_cons_of_mem _ (List.mem_append_right _ h9)
  have hl : lv_has ls 2 [(0, .ref (ad 9 0)), (1, .int t)] := hl
  have hS : va_S A s.heap s.heap [] := va_S.rf
  have hT : isT t = true := (inR_c (n := 10) (by omega)).mpr ⟨tt, htt, ht⟩
  have hct : t.toNatClampNeg = tt := by rw [ht]; exact nI_clamp (by omega)
  refine lv_iload_n hx hb dX3_hasDrawn_0 rfl (lv_at hl 1 rfl) ?_
  refine sn_calli (As := [.int t]) (rest := []) ⟨hx, hb, hml, hown, hts⟩ (ctX9_isTribe l t) ⟨va_cnB 1 hts gX3_hasDrawn_X9_isTribe_n56 rfl rfl rfl hE.1.2.2 (hts _ (by decide +kernel)) (by decide +kernel) ⟨Nat.le_of_ble_eq_true rfl, Nat.le_of_ble_eq_true rfl⟩, hts _ (by decide +kernel), trivial⟩ hP hS rfl hl.1 rfl (Nat.le_of_ble_eq_true rfl) dX3_hasDrawn_1 ⟨Nat.zero_le _, Nat.zero_le _⟩ (fun H locs hP hS => ?_)
  refine lv_if_eq (tgt := 20) hx hb dX3_hasDrawn_4 (by decide) (fun c_4 => ?_) (fun c_4 => ?_)
  · exact absurd hT (by rw [(zI_eq _).mp c_4]; decide)
  · refine lv_aload_n hx hb dX3_hasDrawn_7 rfl (lv_at hl 0 rfl) ?_
    refine cg_X3_drawn (i := 0) hx hb hts hin3 hown hK hP ((hR 9 (0)).mpr Nat.zero_lt_one) (by decide +kernel) dX3_hasDrawn_8 ?_
    refine lv_iload_n hx hb dX3_hasDrawn_11 rfl (lv_at hl 1 rfl) ?_
    refine cl_bool 12 (0) 10 hx hb hK hP ((hR 12 (0)).mpr Nat.zero_lt_one) (fun _ _ _ => rfl) (by rw [ht]; exact vp_in_nI htt (by omega)) dX3_hasDrawn_12 ?_
    refine lv_if_eq (tgt := 20) hx hb dX3_hasDrawn_13 (by decide) (fun c_13 => ?_) (fun c_13 => ?_)
    · rw [hct] at c_13
      refine lv_iconst (v := 0) hx hb dX3_hasDrawn_20 (by decide) ?_
      exact c_reti hx hb hr hlocks hAe hK hP hD hS (by first | rfl | decide) dX3_hasDrawn_21 (⟨by simp [zI, c_13], rfl⟩)
    · rw [hct] at c_13
      refine lv_iconst (v := 1) hx hb dX3_hasDrawn_16 (by decide) ?_
      refine lv_goto (tgt := 21) hx hb dX3_hasDrawn_17 (by decide) ?_
      exact c_reti hx hb hr hlocks hAe hK hP hD hS (by first | rfl | decide) dX3_hasDrawn_21 (⟨by simp [zI, c_13], rfl⟩)
set_option maxHeartbeats 4000000 in
set_option maxRecDepth 100000 in
/-- Dawn.chosenAt -/
theorem ctX3_chosenAt (l : Launch) (D : va_G) (y : Nat → ClassId) (ad : Nat → Nat → Nat) (x : cS) (R : List (Nat × Nat)) (qs : Nat → Nat × Nat) (nC nT : Nat) (hR : cHas R nC nT) (i : Int32) (q : Nat) (ch9 : Nat → Nat) (hq : x.1 9 0 5 = nI q) (hq1 : q ≤ 150) (hch : ∀ i, i < q → x.2.2 13 0 i = some (ch9 i) ∧ ch9 i < nC) : cMe l yX3_chosenAt wsX3_chosenAt ({ frames := 0, cells := 0, slots := 0, locals := 0 }) D y ad x R qs 24 [.ref (ad 9 0), .int i] (fun r x' => r = (if isC q i then some (ch9 (sI i)) else none) ∧ x' = x) := by
  refine cMe_of (cc := cX3_chosenAt) (maxL := 2) (ret := (some (.object "LotMachine$Citizen"))) (by decide) rfl (Nat.le_of_ble_eq_true rfl) ?_
  intro p e s m below meth c A ls hat hAe hl
  obtain ⟨hx, hb, hr, hml, hts, hown, hlocks, hK, hP, hD, hA, hE⟩ := hat
  have hown : s.vm.findClass RX3 = some m.cls := hown
  have hin3 : ∀ w ∈ wsX30, w ∈ wsX3_chosenAt := fun _ h9 => List.mem_cons_of_mem _ (List.mem_append_right _ h9)
  have hl : lv_has ls 2 [(0, .ref (ad 9 0)), (1, .int i)] := hl
  have hS : va_S A s.heap s.heap [] := va_S.rf
  refine lv_iload_n hx hb dX3_chosenAt_0 rfl (lv_at hl 1 rfl) ?_
  refine lv_if_lt (tgt := 21) hx hb dX3_chosenAt_1 (by decide) (fun c_1 => ?_) (fun c_1 => ?_)
  · refine lv_null hx hb dX3_chosenAt_21 ?_
    exact c_rete (er := 24) (r := none) hx hb hr hlocks hAe hK hP hD hS dX3_chosenAt_22 (⟨by rw [if_neg (by rw [isC_neg (by omega) c_1]; decide)], rfl⟩) rfl
  · refine lv_iload_n hx hb dX3_chosenAt_4 rfl (lv_at hl 1 rfl) ?_
    refine lv_aload_n hx hb dX3_chosenAt_5 rfl (lv_at hl 0 rfl) ?_
    refine cg_X3_chosenOnes (i := 0) hx hb hts hin3 hown hK hP ((hR 9 (0)).mpr Nat.zero_lt_one) (by decide +kernel) dX3_chosenAt_6 ?_
    refine lv_icmp_ge (tgt := 21) hx hb dX3_chosenAt_9 (by decide) (fun c_9 => ?_) (fun c_9 => ?_)
    · rw [hq] at c_9
      refine lv_null hx hb dX3_chosenAt_21 ?_
      exact c_rete (er := 24) (r := none) hx hb hr hlocks hAe hK hP hD hS dX3_chosenAt_22 (⟨by rw [if_neg (by rw [isC_ge (by omega) c_9]; decide)], rfl⟩) rfl
    · rw [hq] at c_9
      obtain ⟨g1, g2, g3⟩ := isC_lt (by omega) c_1 c_9
      obtain ⟨h17, h17c⟩ := hch (sI i) g2
      refine lv_aload_n hx hb dX3_chosenAt_12 rfl (lv_at hl 0 rfl) ?_
      refine cg_X3_chosen (i := 0) hx hb hts hin3 hown hK hP ((hR 9 (0)).mpr Nat.zero_lt_one) (by decide +kernel) dX3_chosenAt_13 ?_
      refine lv_iload_n hx hb dX3_chosenAt_16 rfl (lv_at hl 1 rfl) ?_
      refine cl_ref 13 (0) 150 24 4 hx hb hK hP ((hR 13 (0)).mpr Nat.zero_lt_one) (fun _ _ _ => rfl) rfl (sn_in g3 g2 hq1 (by omega)) dX3_chosenAt_17 ?_
      refine lv_re (fun e9 => absurd (e9.symm.trans (h17)) (by simp)) (fun j9 e9 => ?_)
      rw [show j9 = ch9 (sI i) from Option.some.inj (e9.symm.trans (h17))]
      refine lv_goto (tgt := 22) hx hb dX3_chosenAt_18 (by decide) ?_
      exact c_rete (er := 24) (r := some (ch9 (sI i))) hx hb hr hlocks hAe hK hP hD hS dX3_chosenAt_22 (⟨by rw [if_pos g1], rfl⟩) rfl
set_option maxHeartbeats 4000000 in
set_option maxRecDepth 100000 in
/-- Dawn.ticketAt -/
theorem ctX3_ticketAt (l : Launch) (D : va_G) (y : Nat → ClassId) (ad : Nat → Nat → Nat) (x : cS) (R : List (Nat × Nat)) (qs : Nat → Nat × Nat) (nC nT : Nat) (hR : cHas R nC nT) (t w r : Int32) (a : Nat) (cm : Nat → Nat) (ha : x.1 9 0 4 = nI a) (ha1 : a ≤ 150) (hcm : ∀ i, i < a → x.2.2 10 0 i = some (cm i) ∧ cm i < nC) : cMe l yX3_ticketAt wsX3_ticketAt ({ frames := 1, cells := 0, slots := 0, locals := 23 }) D y ad x R qs 24 [.ref (ad 9 0), .int t, .int w, .int r] (fun r' x' => r' = fOpt (fun i => cHo x t w r (cm i)) a cm ∧ x' = x) := by
  refine cMe_of (cc := cX3_ticketAt) (maxL := 6) (ret := (some (.object "LotMachine$Citizen"))) (by decide) rfl (Nat.le_of_ble_eq_true rfl) ?_
  intro p e s m below meth c A ls hat hAe hl
  obtain ⟨hx, hb, hr, hml, hts, hown, hlocks, hK, hP, hD, hA, hE⟩ := hat
  have hown : s.vm.findClass RX3 = some m.cls := hown
  have hin3 : ∀ w ∈ wsX30, w ∈ wsX3_ticketAt := fun _ h9 => List.mem_cons_of_mem _ (List.mem_append_left _ (List.mem_append_right _ h9))
  have hin1 : ∀ w ∈ wsX10, w ∈ wsX3_ticketAt := fun _ h9 => List.mem_cons_of_mem _ (List.mem_append_right _ h9)
  have hl : lv_has ls 6 [(0, .ref (ad 9 0)), (1, .int t), (2, .int w), (3, .int r)] := hl
  have hS : va_S A s.heap s.heap [] := va_S.rf
  refine lv_iconst (v := 0) hx hb dX3_ticketAt_0 (by decide) ?_
  refine lv_istore (lv' := [(4, .int 0), (0, .ref (ad 9 0)), (1, .int t), (2, .int w), (3, .int r)]) hx hb dX3_ticketAt_1 hl (by decide) rfl (fun ls hl => ?_)
  have lp_3 : ∀ (n_3 : Nat) (j : Nat) (x4 : Int32), (j ≤ a) → (a + 1 ≤ j + n_3) → (x4 = nI j) → (∀ i, i < j → (fun i => cHo x t w r (cm i)) i = false) → ∀ (H : Heap) (locs : List Loc), va_P D vwCl (cW ad y x R) H → va_D A (cW ad y x R) → va_S A s.heap H locs → ∀ (ls : Array Slot), lv_has ls 6 [(0, .ref (ad 9 0)), (1, .int t), (2, .int w), (3, .int r), (4, .int x4)] → W p l e (headSpec wsX3_ticketAt ({ frames := 1, cells := 0, slots := 0, locals := 23 })).room s m ([.ref (ad 9 0), .int t, .int w, .int r] : List Value).toArray below meth c H locs 0 0 (MQ below (va_Qe (ad 24) (fun r' x' => r' = fOpt (fun i => cHo x t w r (cm i)) a cm ∧ x' = x) (cEnd D y ad R s.heap.size) A) ([.ref (ad 9 0), .int t, .int w, .int r] : List Value).toArray s 0 0 A) (F0 m 3 ls []) := by
    intro n_3
    induction n_3 with
    | zero =>
      intro j x4 hj hf ex4 hno
      exact absurd hf (by omega)
    | succ n_3 ih_3 =>
      intro j x4 hj hf ex4 hno H locs hP hD hS ls hl
      refine lv_iload hx hb dX3_ticketAt_3 (lv_at hl 4 rfl) ?_
      refine lv_aload_n hx hb dX3_ticketAt_5 rfl (lv_at hl 0 rfl) ?_
      refine cg_X3_arrivals (i := 0) hx hb hts hin3 hown hK hP ((hR 9 (0)).mpr Nat.zero_lt_one) (by decide +kernel) dX3_ticketAt_6 ?_
      refine lv_icmp_ge (tgt := 46) hx hb dX3_ticketAt_9 (by decide) (fun c_9 => ?_) (fun c_9 => ?_)
      · have hjn : j = a := by rw [ha, ex4] at c_9; have := (nI_leI (by omega) (by omega)).mp c_9; omega
        refine lv_null hx hb dX3_ticketAt_46 ?_
        exact c_rete (er := 24) (r := none) hx hb hr hlocks hAe hK hP hD hS dX3_ticketAt_47 (⟨(fOpt_miss (by rw [hjn] at hno; exact hno)).symm, rfl⟩) rfl
      · have hjn : j < a := by rw [ha, ex4] at c_9; exact Nat.not_le.mp (fun q9 => c_9 (nI_le q9 (by omega)))
        obtain ⟨h18, h18c⟩ := hcm j hjn
        have h18 : x.2.2 10 0 x4.toNatClampNeg = some (cm j) := by rw [ex4, nI_clamp (by omega)]; exact h18
        refine lv_aload_n hx hb dX3_ticketAt_12 rfl (lv_at hl 0 rfl) ?_
        refine cg_X3_came (i := 0) hx hb hts hin3 hown hK hP ((hR 9 (0)).mpr Nat.zero_lt_one) (by decide +kernel) dX3_ticketAt_13 ?_
        refine lv_iload hx hb dX3_ticketAt_16 (lv_at hl 4 rfl) ?_
        refine cl_ref 10 (0) 150 24 4 hx hb hK hP ((hR 10 (0)).mpr Nat.zero_lt_one) (fun _ _ _ => rfl) rfl (by rw [ex4]; exact vp_in_nI (by omega) (by omega)) dX3_ticketAt_18 ?_
        refine lv_re (fun e9 => absurd (e9.symm.trans (h18)) (by simp)) (fun j9 e9 => ?_)
        rw [show j9 = cm j from Option.some.inj (e9.symm.trans (h18))]
        refine lv_astore (lv' := [(5, .ref (ad 24 (cm j))), (0, .ref (ad 9 0)), (1, .int t), (2, .int w), (3, .int r), (4, .int x4)]) hx hb dX3_ticketAt_19 hl (by decide) rfl (fun ls hl => ?_)
        refine lv_aload hx hb dX3_ticketAt_21 (lv_at hl 0 rfl) ?_
        refine lv_ifnull hx hb dX3_ticketAt_23 ?_
        refine lv_aload hx hb dX3_ticketAt_26 (lv_at hl 0 rfl) ?_
        refine lv_iload_n hx hb dX3_ticketAt_28 rfl (lv_at hl 2 rfl) ?_
        refine lv_iload_n hx hb dX3_ticketAt_29 rfl (lv_at hl 3 rfl) ?_
        refine lv_iload_n hx hb dX3_ticketAt_30 rfl (lv_at hl 4 rfl) ?_
        refine c_callip (ci := 1) (q := (RX1, TX1, 10)) (κ := 24) (i := cm j) (As := [.int t, .int w, .int r]) (rest := []) ⟨hx, hb, hml, hown, hts⟩ (ctX1_holds l D y ad x R qs nC nT hR (cm j) t w r h18c) (cwV 3 hts gX3_ticketAt_X1_holds rfl rfl rfl (by decide +kernel) ⟨Nat.le_of_ble_eq_true rfl, Nat.le_of_ble_eq_true rfl⟩) ((hR 24 (cm j)).mpr h18c) (fun _ _ _ => ⟨_, rfl⟩) rfl hE hK hP hD hS hA rfl hl.1 rfl (Nat.le_of_ble_eq_true rfl) dX3_ticketAt_31 ⟨Nat.zero_le _, Nat.zero_le _⟩ (fun H locs hP hD hS => ?_)
        refine lv_if_eq (tgt := 40) hx hb dX3_ticketAt_34 (by decide) (fun c_34 => ?_) (fun c_34 => ?_)
        · have b34 : cHo x t w r (cm j) = false := (zI_eq _).mp c_34
          obtain ⟨x4_1, ex4_1⟩ : ∃ z : Int32, z = x4 + 1 := ⟨_, rfl⟩
          refine lv_iinc (v := x4_1) (lv' := [(4, .int x4_1), (5, .ref (ad 24 (cm j))), (0, .ref (ad 9 0)), (1, .int t), (2, .int w), (3, .int r)]) hx hb dX3_ticketAt_40 hl (k := 5) rfl (by rw [ex4_1]; rfl) (by decide) rfl (fun ls hl => ?_)
          refine lv_goto (tgt := 3) hx hb dX3_ticketAt_43 (by decide) ?_
          exact ih_3 (j + 1) _ (by omega) (by omega) (by rw [ex4_1, ex4]; exact nI_1 _) (lt_sb hno b34) _ _ hP hD hS _ (lv_sub hl [2, 3, 4, 5, 0] rfl)
        · have b34 : cHo x t w r (cm j) = true := (zI_ne _).mp c_34
          refine lv_aload hx hb dX3_ticketAt_37 (lv_at hl 0 rfl) ?_
          exact c_rete (er := 24) (r := some (cm j)) hx hb hr hlocks hAe hK hP hD hS dX3_ticketAt_39 (⟨(fOpt_hit hno hjn b34).symm, rfl⟩) rfl
  exact lp_3 (a + 1) 0 _ (Nat.zero_le _) (by omega) rfl (fun i hi => absurd hi (Nat.not_lt_zero _)) _ _ hP hD hS _ (lv_sub hl [1, 2, 3, 4, 0] rfl)
def cMn (co : Nat → Nat) (tt : Nat) : Nat → Nat
  | 0 => 150
  | j + 1 => if co (5 * tt + j) < cMn co tt j then co (5 * tt + j) else cMn co tt j
theorem cMn_le (co : Nat → Nat) (tt : Nat) : ∀ j, cMn co tt j ≤ 150
  | 0 => Nat.le_refl _
  | j + 1 => by
    have ih := cMn_le co tt j
    rw [cMn]; split <;> omega
theorem mulk (a : Nat) (t : Nat) (j : Nat) : nI t * nI a + nI j = nI (a * t + j) := by rw [pk_mul, nI_add, Nat.mul_comm]
set_option maxHeartbeats 4000000 in
set_option maxRecDepth 100000 in
/-- Dawn.rowsOf -/
theorem ctX3_rowsOf (l : Launch) (D : va_G) (y : Nat → ClassId) (ad : Nat → Nat → Nat) (x : cS) (R : List (Nat × Nat)) (qs : Nat → Nat × Nat) (nC nT : Nat) (hR : cHas R nC nT) (t : Int32) (tt : Nat) (co : Nat → Nat) (ht : t = nI tt) (htt : tt < 10) (hco : ∀ j, j < 50 → x.1 11 0 j = nI (co j) ∧ co j ≤ 150) : cMi l yX3_rowsOf wsX3_rowsOf ({ frames := 1, cells := 0, slots := 0, locals := 27 }) D y ad x R qs [.ref (ad 9 0), .int t] (fun r x' => r = nI (cMn co tt 5) ∧ x' = x) := by
  refine cMi_of (cc := cX3_rowsOf) (maxL := 4) (ret := (some .int)) (by decide) rfl (Nat.le_of_ble_eq_true rfl) ?_
  intro p e s m below meth c A ls hat hAe hl
  obtain ⟨hx, hb, hr, hml, hts, hown, hlocks, hK, hP, hD, hA, hE⟩ := hat
  have hown : s.vm.findClass RX3 = some m.cls := hown
  have hin3 : ∀ w ∈ wsX30, w ∈ wsX3_rowsOf := fun _ h9 => List.mem_cons_of_mem _ (List.mem_append_right _ h9)
  have hl : lv_has ls 4 [(0, .ref (ad 9 0)), (1, .int t)] := hl
  have hS : va_S A s.heap s.heap [] := va_S.rf
  have hT : isT t = true := (inR_c (n := 10) (by omega)).mpr ⟨tt, htt, ht⟩
  refine lv_iload_n hx hb dX3_rowsOf_0 rfl (lv_at hl 1 rfl) ?_
  refine sn_calli (As := [.int t]) (rest := []) ⟨hx, hb, hml, hown, hts⟩ (ctX9_isTribe l t) ⟨va_cnB 1 hts gX3_rowsOf_X9_isTribe_n56 rfl rfl rfl hE.1.2.2 (hts _ (by decide +kernel)) (by decide +kernel) ⟨Nat.le_of_ble_eq_true rfl, Nat.le_of_ble_eq_true rfl⟩, hts _ (by decide +kernel), trivial⟩ hP hS rfl hl.1 rfl (Nat.le_of_ble_eq_true rfl) dX3_rowsOf_1 ⟨Nat.zero_le _, Nat.zero_le _⟩ (fun H locs hP hS => ?_)
  refine lv_if_ne (tgt := 9) hx hb dX3_rowsOf_4 (by decide) (fun c_4 => ?_) (fun c_4 => ?_)
  · refine lv_sipush (v := 150) hx hb dX3_rowsOf_9 (by decide) ?_
    refine lv_istore_n (lv' := [(2, .int 150), (0, .ref (ad 9 0)), (1, .int t)]) hx hb dX3_rowsOf_12 rfl hl (by decide) rfl (fun ls hl => ?_)
    refine lv_iconst (v := 0) hx hb dX3_rowsOf_13 (by decide) ?_
    refine lv_istore_n (lv' := [(3, .int 0), (2, .int 150), (0, .ref (ad 9 0)), (1, .int t)]) hx hb dX3_rowsOf_14 rfl hl (by decide) rfl (fun ls hl => ?_)
    have lp_15 : ∀ (n_15 : Nat) (j : Nat) (x2 : Int32) (x3 : Int32), (j ≤ 5) → (5 + 1 ≤ j + n_15) → (x3 = nI j) → (x2 = nI (cMn co tt j)) → ∀ (H : Heap) (locs : List Loc), va_P D vwCl (cW ad y x R) H → va_D A (cW ad y x R) → va_S A s.heap H locs → ∀ (ls : Array Slot), lv_has ls 4 [(0, .ref (ad 9 0)), (1, .int t), (2, .int x2), (3, .int x3)] → W p l e (headSpec wsX3_rowsOf ({ frames := 1, cells := 0, slots := 0, locals := 27 })).room s m ([.ref (ad 9 0), .int t] : List Value).toArray below meth c H locs 0 0 (MQ below (va_Qi (fun r x' => r = nI (cMn co tt 5) ∧ x' = x) (cEnd D y ad R s.heap.size) A) ([.ref (ad 9 0), .int t] : List Value).toArray s 0 0 A) (F0 m 15 ls []) := by
      intro n_15
      induction n_15 with
      | zero =>
        intro j x2 x3 hj hf ex3 ex2
        exact absurd hf (by omega)
      | succ n_15 ih_15 =>
        intro j x2 x3 hj hf ex3 ex2 H locs hP hD hS ls hl
        refine lv_iload_n hx hb dX3_rowsOf_15 rfl (lv_at hl 3 rfl) ?_
        refine lv_iconst (v := 5) hx hb dX3_rowsOf_16 (by decide) ?_
        refine lv_icmp_ge (tgt := 41) hx hb dX3_rowsOf_17 (by decide) (fun c_17 => ?_) (fun c_17 => ?_)
        · have hjn : j = 5 := by rw [ex3] at c_17; have := (nI_leI (a := 5) (by omega) (by omega)).mp c_17; omega
          refine lv_iload_n hx hb dX3_rowsOf_41 rfl (lv_at hl 2 rfl) ?_
          exact c_reti hx hb hr hlocks hAe hK hP hD hS rfl dX3_rowsOf_42 (⟨by rw [ex2, hjn], rfl⟩)
        · have hjn : j < 5 := by rw [ex3] at c_17; exact Nat.not_le.mp (fun q9 => c_17 (nI_le (a := 5) q9 (by omega)))
          have hix : t * 5 + x3 = nI (5 * tt + j) := by rw [ht, ex3]; exact mulk 5 tt j
          obtain ⟨hv1, hv2⟩ := hco (5 * tt + j) (by omega)
          have hm0 := cMn_le co tt j
          have hmn : (if nI (co (5 * tt + j)) < nI (cMn co tt j) then nI (co (5 * tt + j)) else nI (cMn co tt j)) = nI (cMn co tt (j + 1)) := by rw [cMn]; by_cases h9 : co (5 * tt + j) < cMn co tt j; rw [if_pos h9, if_pos ((nI_ltI (by omega) (by omega)).mpr h9)]; rw [if_neg h9, if_neg (fun q9 => h9 ((nI_ltI (by omega) (by omega)).mp q9))]
          refine lv_iload_n hx hb dX3_rowsOf_20 rfl (lv_at hl 2 rfl) ?_
          refine lv_aload_n hx hb dX3_rowsOf_21 rfl (lv_at hl 0 rfl) ?_
          refine cg_X3_columns (i := 0) hx hb hts hin3 hown hK hP ((hR 9 (0)).mpr Nat.zero_lt_one) (by decide +kernel) dX3_rowsOf_22 ?_
          refine lv_iload_n hx hb dX3_rowsOf_25 rfl (lv_at hl 1 rfl) ?_
          refine lv_iconst (v := 5) hx hb dX3_rowsOf_26 (by decide) ?_
          refine lv_imul hx hb dX3_rowsOf_27 ?_
          refine lv_iload_n hx hb dX3_rowsOf_28 rfl (lv_at hl 3 rfl) ?_
          refine lv_iadd hx hb dX3_rowsOf_29 ?_
          refine cl_int 11 (0) 50 hx hb hK hP ((hR 11 (0)).mpr Nat.zero_lt_one) (fun _ _ _ => rfl) (by rw [hix]; exact vp_in_nI (by omega) (by omega)) dX3_rowsOf_30 ?_
          refine va_mmin hx hb (by rw [hml]; exact hl.1.symm) hown (hts _ (by decide +kernel)) (hts _ (by decide +kernel)) (hts _ (by decide +kernel)) (hts _ (by decide +kernel)) (Nat.le_of_ble_eq_true rfl) (Nat.le_of_ble_eq_true rfl) (Nat.zero_le _) (Nat.zero_le _) dX3_rowsOf_31 ?_
          refine lv_topi (fun x2_1 ex2_1 => ?_)
          refine lv_istore_n (lv' := [(2, .int x2_1), (0, .ref (ad 9 0)), (1, .int t), (3, .int x3)]) hx hb dX3_rowsOf_34 rfl hl (by decide) rfl (fun ls hl => ?_)
          obtain ⟨x3_2, ex3_2⟩ : ∃ z : Int32, z = x3 + 1 := ⟨_, rfl⟩
          refine lv_iinc (v := x3_2) (lv' := [(3, .int x3_2), (2, .int x2_1), (0, .ref (ad 9 0)), (1, .int t)]) hx hb dX3_rowsOf_35 hl (k := 3) rfl (by rw [ex3_2]; rfl) (by decide) rfl (fun ls hl => ?_)
          refine lv_goto (tgt := 15) hx hb dX3_rowsOf_38 (by decide) ?_
          exact ih_15 (j + 1) _ _ (by omega) (by omega) (by rw [ex3_2, ex3]; exact nI_1 _) (by rw [ex2_1, hix, nI_clamp (by omega), hv1, ex2]; exact hmn) _ _ hP hD hS _ (lv_sub hl [2, 3, 1, 0] rfl)
    exact lp_15 6 0 _ _ (Nat.zero_le _) (by omega) rfl rfl _ _ hP hD hS _ (lv_sub hl [2, 3, 1, 0] rfl)
  · exact absurd hT (by rw [(zI_eq _).mp c_4]; decide)
def cAdm (x : cS) (a c g : Nat) : cS := cI (cI (cI (cO x 10 0 a (some c)) 9 0 4 (nI (a + 1))) 24 c 7 (x.1 11 0 g)) 11 0 g (x.1 11 0 g + 1)
set_option maxHeartbeats 4000000 in
set_option maxRecDepth 100000 in
/-- Dawn: one comes in -/
theorem ctX3_admit (l : Launch) (D : va_G) (y : Nat → ClassId) (ad : Nat → Nat → Nat) (x : cS) (R : List (Nat × Nat)) (qs : Nat → Nat × Nat) (nC nT : Nat) (hR : cHas R nC nT) (a c9 tt ll : Nat) (ha : x.1 9 0 4 = nI a) (ha1 : a < 150) (hc : c9 < nC) (ht : x.1 24 c9 1 = nI tt) (htt : tt < 10) (hw : x.1 24 c9 2 = nI ll) (hll : ll < 5) : cMi l yX3_admit wsX3_admit ({ frames := 0, cells := 0, slots := 0, locals := 0 }) D y ad x R qs [.ref (ad 9 0), .ref (ad 24 c9)] (fun r x' => r = x.1 11 0 (5 * tt + ll) + 1 ∧ x' = cAdm x a c9 (5 * tt + ll)) := by
  refine cMi_of (cc := cX3_admit) (maxL := 3) (ret := (some .int)) (by decide) rfl (Nat.le_of_ble_eq_true rfl) ?_
  intro p e s m below meth c A ls hat hAe hl
  obtain ⟨hx, hb, hr, hml, hts, hown, hlocks, hK, hP, hD, hA, hE⟩ := hat
  have hown : s.vm.findClass RX3 = some m.cls := hown
  have hin1 : ∀ w ∈ wsX10, w ∈ wsX3_admit := fun _ h9 => List.mem_cons_of_mem _ (List.mem_append_left _ (List.mem_append_right _ h9))
  have hin3 : ∀ w ∈ wsX30, w ∈ wsX3_admit := fun _ h9 => List.mem_cons_of_mem _ (List.mem_append_right _ h9)
  have hl : lv_has ls 3 [(0, .ref (ad 9 0)), (1, .ref (ad 24 c9))] := hl
  have hS : va_S A s.heap s.heap [] := va_S.rf
  refine lv_aload_n hx hb dX3_admit_0 rfl (lv_at hl 1 rfl) ?_
  refine cg_X1_tribe (i := c9) hx hb hts hin1 hown hK hP ((hR 24 (c9)).mpr hc) (by decide +kernel) dX3_admit_1 ?_
  refine lv_iconst (v := 5) hx hb dX3_admit_4 (by decide) ?_
  refine lv_imul hx hb dX3_admit_5 ?_
  refine lv_aload_n hx hb dX3_admit_6 rfl (lv_at hl 1 rfl) ?_
  refine cg_X1_letter (i := c9) hx hb hts hin1 hown hK hP ((hR 24 (c9)).mpr hc) (by decide +kernel) dX3_admit_7 ?_
  refine lv_iadd hx hb dX3_admit_10 ?_
  refine lv_topi (fun g eg => ?_)
  refine lv_istore_n (lv' := [(2, .int g), (0, .ref (ad 9 0)), (1, .ref (ad 24 c9))]) hx hb dX3_admit_11 rfl hl (by decide) rfl (fun ls hl => ?_)
  have hg : g = nI (5 * tt + ll) := by rw [eg, ht, hw]; exact mulk 5 tt ll
  have hcg : g.toNatClampNeg = 5 * tt + ll := by rw [hg]; exact nI_clamp (by omega)
  have hig : vp_in g 50 := by rw [hg]; exact vp_in_nI (by omega) (by omega)
  have hg0 : ¬ g < 0 := fun q9 => by rw [hg] at q9; have := (nI_ltI (b := 0) (by omega) (by omega)).mp q9; omega
  have hg50 : g < nI 50 := by rw [hg]; exact (nI_ltI (by omega) (by omega)).mpr (by omega)
  refine lv_aload_n hx hb dX3_admit_12 rfl (lv_at hl 1 rfl) ?_
  refine cg_X3_arrivals (i := 0) hx hb hts hin3 hown hK hP ((hR 9 (0)).mpr Nat.zero_lt_one) (by decide +kernel) dX3_admit_13 ?_
  refine lv_sipush (v := 150) hx hb dX3_admit_16 (by decide) ?_
  refine lv_icmp_ge (tgt := 35) hx hb dX3_admit_19 (by decide) (fun c_19 => ?_) (fun c_19 => ?_)
  · exact absurd c_19 (by rw [ha]; exact nI_ge (b := 150) (by omega) (by omega))
  · refine lv_iload_n hx hb dX3_admit_22 rfl (lv_at hl 0 rfl) ?_
    refine lv_if_lt (tgt := 35) hx hb dX3_admit_23 (by decide) (fun c_23 => ?_) (fun c_23 => ?_)
    · exact absurd c_23 hg0
    · refine lv_iload_n hx hb dX3_admit_26 rfl (lv_at hl 0 rfl) ?_
      refine lv_aload_n hx hb dX3_admit_27 rfl (lv_at hl 1 rfl) ?_
      refine cg_X3_columns (i := 0) hx hb hts hin3 hown hK hP ((hR 9 (0)).mpr Nat.zero_lt_one) (by decide +kernel) dX3_admit_28 ?_
      refine c_len (t0 := 1) 11 (0) hx hb hK hP ((hR 11 (0)).mpr Nat.zero_lt_one) rfl rfl dX3_admit_31 ?_
      refine lv_icmp_lt (tgt := 38) hx hb dX3_admit_32 (by decide) (fun c_32 => ?_) (fun c_32 => ?_)
      · refine lv_aload_n hx hb dX3_admit_38 rfl (lv_at hl 1 rfl) ?_
        refine cg_X3_came (i := 0) hx hb hts hin3 hown hK hP ((hR 9 (0)).mpr Nat.zero_lt_one) (by decide +kernel) dX3_admit_39 ?_
        refine lv_aload_n hx hb dX3_admit_42 rfl (lv_at hl 1 rfl) ?_
        refine cg_X3_arrivals (i := 0) hx hb hts hin3 hown hK hP ((hR 9 (0)).mpr Nat.zero_lt_one) (by decide +kernel) dX3_admit_43 ?_
        refine lv_aload_n hx hb dX3_admit_46 rfl (lv_at hl 2 rfl) ?_
        refine cs_ref 10 (0) 150 24 4 1 (c9) hx hb hK hP hD hS ((hR 10 (0)).mpr Nat.zero_lt_one) (fun _ _ _ => rfl) rfl ((hR 24 (c9)).mpr hc) (fun _ _ _ => ⟨_, rfl⟩) rfl (by rw [ha]; exact vp_in_nI ha1 (by omega)) dX3_admit_47 (fun H locs hP hD hS => ?_)
        rw [ha, nI_clamp (by omega)] at hP hD
        refine lv_aload_n hx hb dX3_admit_48 rfl (lv_at hl 1 rfl) ?_
        refine lv_dup hx hb dX3_admit_49 rfl ?_
        refine cg_X3_arrivals (i := 0) hx hb hts hin3 hown hK hP ((hR 9 (0)).mpr Nat.zero_lt_one) (by decide +kernel) dX3_admit_50 ?_
        refine lv_iconst (v := 1) hx hb dX3_admit_53 (by decide) ?_
        refine lv_iadd hx hb dX3_admit_54 ?_
        refine cp_X3_arrivals (i := 0) hx hb hts hin3 hown hK hP hD hS ((hR 9 (0)).mpr Nat.zero_lt_one) (by decide +kernel) dX3_admit_55 (fun H locs hP hD hS => ?_)
        refine lv_aload_n hx hb dX3_admit_58 rfl (lv_at hl 2 rfl) ?_
        refine lv_aload_n hx hb dX3_admit_59 rfl (lv_at hl 1 rfl) ?_
        refine cg_X3_columns (i := 0) hx hb hts hin3 hown hK hP ((hR 9 (0)).mpr Nat.zero_lt_one) (by decide +kernel) dX3_admit_60 ?_
        refine lv_iload_n hx hb dX3_admit_63 rfl (lv_at hl 0 rfl) ?_
        refine cl_int 11 (0) 50 hx hb hK hP ((hR 11 (0)).mpr Nat.zero_lt_one) (fun _ _ _ => rfl) (hig) dX3_admit_64 ?_
        refine cp_X1_place (i := c9) hx hb hts hin1 hown hK hP hD hS ((hR 24 (c9)).mpr hc) (by decide +kernel) dX3_admit_65 (fun H locs hP hD hS => ?_)
        refine lv_aload_n hx hb dX3_admit_68 rfl (lv_at hl 1 rfl) ?_
        refine cg_X3_columns (i := 0) hx hb hts hin3 hown hK hP ((hR 9 (0)).mpr Nat.zero_lt_one) (by decide +kernel) dX3_admit_69 ?_
        refine lv_iload_n hx hb dX3_admit_72 rfl (lv_at hl 0 rfl) ?_
        refine lv_dup2_11 hx hb dX3_admit_73 rfl rfl ?_
        refine cl_int 11 (0) 50 hx hb hK hP ((hR 11 (0)).mpr Nat.zero_lt_one) (fun _ _ _ => rfl) (hig) dX3_admit_74 ?_
        refine lv_iconst (v := 1) hx hb dX3_admit_75 (by decide) ?_
        refine lv_iadd hx hb dX3_admit_76 ?_
        refine cs_int 11 (0) 50 hx hb hK hP hD hS ((hR 11 (0)).mpr Nat.zero_lt_one) (fun _ _ _ => rfl) (hig) dX3_admit_77 (fun H locs hP hD hS => ?_)
        refine lv_aload_n hx hb dX3_admit_78 rfl (lv_at hl 1 rfl) ?_
        refine cg_X3_columns (i := 0) hx hb hts hin3 hown hK hP ((hR 9 (0)).mpr Nat.zero_lt_one) (by decide +kernel) dX3_admit_79 ?_
        refine lv_iload_n hx hb dX3_admit_82 rfl (lv_at hl 0 rfl) ?_
        refine cl_int 11 (0) 50 hx hb hK hP ((hR 11 (0)).mpr Nat.zero_lt_one) (fun _ _ _ => rfl) (hig) dX3_admit_83 ?_
        exact c_reti hx hb hr hlocks hAe hK hP hD hS rfl dX3_admit_84 (⟨by simp [hcg, cI_r, cO_l], by simp [hcg, cI_r, cO_l, cAdm, ha, nI_1]⟩)
      · exact absurd hg50 c_32
def cClr (x : cS) (cm : Nat → Nat) : Nat → cS
  | 0 => x
  | j + 1 => cLv (cClr x cm j) (cm j)
theorem cClr_keep (x : cS) (cm : Nat → Nat) : ∀ j, (∀ a b c, a ≠ 24 → (cClr x cm j).1 a b c = x.1 a b c) ∧ (cClr x cm j).2 = x.2
  | 0 => ⟨fun _ _ _ _ => rfl, rfl⟩
  | j + 1 => by
    obtain ⟨h1, h2⟩ := cClr_keep x cm j
    refine ⟨fun a b c h => ?_, h2⟩
    rw [cClr, cLv]
    simp only [cI_r, h, false_and, if_false]
    exact h1 a b c h
def cClear (x : cS) (cm : Nat → Nat) (a : Nat) : cS := cI (cI (cI (cF (cF (cClr x cm a) 11 0 0 50) 12 0 0 10) 9 0 4 0) 9 0 5 0) 9 0 6 0
set_option maxHeartbeats 4000000 in
set_option maxRecDepth 100000 in
/-- Dawn.clear -/
theorem ctX3_clear (l : Launch) (D : va_G) (y : Nat → ClassId) (ad : Nat → Nat → Nat) (x : cS) (R : List (Nat × Nat)) (qs : Nat → Nat × Nat) (nC nT : Nat) (hR : cHas R nC nT) (a : Nat) (cm : Nat → Nat) (ha : x.1 9 0 4 = nI a) (ha1 : a ≤ 150) (hcm : ∀ i, i < a → x.2.2 10 0 i = some (cm i) ∧ cm i < nC) : cMv l yX3_clear wsX3_clear ({ frames := 1, cells := 0, slots := 0, locals := 23 }) D y ad x R qs [.ref (ad 9 0)] (fun x' => x' = cClear x cm a) := by
  refine cMv_of (cc := cX3_clear) (maxL := 3) (ret := none) (by decide) rfl (Nat.le_of_ble_eq_true rfl) ?_
  intro p e s m below meth c A ls hat hAe hl
  obtain ⟨hx, hb, hr, hml, hts, hown, hlocks, hK, hP, hD, hA, hE⟩ := hat
  have hown : s.vm.findClass RX3 = some m.cls := hown
  have hin3 : ∀ w ∈ wsX30, w ∈ wsX3_clear := fun _ h9 => List.mem_cons_of_mem _ (List.mem_append_left _ (List.mem_append_right _ h9))
  have hin1 : ∀ w ∈ wsX10, w ∈ wsX3_clear := fun _ h9 => List.mem_cons_of_mem _ (List.mem_append_right _ h9)
  have hl : lv_has ls 3 [(0, .ref (ad 9 0))] := hl
  have hS : va_S A s.heap s.heap [] := va_S.rf
  refine lv_iconst (v := 0) hx hb dX3_clear_0 (by decide) ?_
  refine lv_istore_n (lv' := [(1, .int 0), (0, .ref (ad 9 0))]) hx hb dX3_clear_1 rfl hl (by decide) rfl (fun ls hl => ?_)
  have lp_2 : ∀ (n_2 : Nat) (j : Nat) (u : cS) (x1 : Int32), (j ≤ a) → (a + 1 ≤ j + n_2) → (x1 = nI j) → (u = cClr x cm j) → ∀ (H : Heap) (locs : List Loc), va_P D vwCl (cW ad y u R) H → va_D A (cW ad y u R) → va_S A s.heap H locs → ∀ (ls : Array Slot), lv_has ls 3 [(0, .ref (ad 9 0)), (1, .int x1)] → W p l e (headSpec wsX3_clear ({ frames := 1, cells := 0, slots := 0, locals := 23 })).room s m ([.ref (ad 9 0)] : List Value).toArray below meth c H locs 0 0 (MQ below (va_Qv (fun x' => x' = cClear x cm a) (cEnd D y ad R s.heap.size) A) ([.ref (ad 9 0)] : List Value).toArray s 0 0 A) (F0 m 2 ls []) := by
    intro n_2
    induction n_2 with
    | zero =>
      intro j u x1 hj hf ex1 hu
      exact absurd hf (by omega)
    | succ n_2 ih_2 =>
      intro j u x1 hj hf ex1 hu H locs hP hD hS ls hl
      obtain ⟨hk1, hk2⟩ := cClr_keep x cm j
      have hau : u.1 9 0 4 = nI a := by rw [hu, hk1 9 0 4 (by decide)]; exact ha
      have hu2 : u.2 = x.2 := by rw [hu]; exact hk2
      refine lv_iload_n hx hb dX3_clear_2 rfl (lv_at hl 1 rfl) ?_
      refine lv_aload_n hx hb dX3_clear_3 rfl (lv_at hl 0 rfl) ?_
      refine cg_X3_arrivals (i := 0) hx hb hts hin3 hown hK hP ((hR 9 (0)).mpr Nat.zero_lt_one) (by decide +kernel) dX3_clear_4 ?_
      refine lv_icmp_ge (tgt := 31) hx hb dX3_clear_7 (by decide) (fun c_7 => ?_) (fun c_7 => ?_)
      · have hjn : j = a := by rw [hau, ex1] at c_7; have := (nI_leI (by omega) (by omega)).mp c_7; omega
        refine lv_aload_n hx hb dX3_clear_31 rfl (lv_at hl 0 rfl) ?_
        refine cg_X3_columns (i := 0) hx hb hts hin3 hown hK hP ((hR 9 (0)).mpr Nat.zero_lt_one) (by decide +kernel) dX3_clear_32 ?_
        refine lv_iconst (v := 0) hx hb dX3_clear_35 (by decide) ?_
        refine c_scallv (As := [.ref (ad 11 0), .int 0]) (rest := []) ⟨hx, hb, hml, hown, hts⟩ (ctJ7_fill_53178 l D y ad u R qs nC nT hR 11 0 50 0 ((hR 11 0).mpr Nat.zero_lt_one) (fun _ _ _ => rfl) (by omega)) (va_cwS 2 hts gX3_clear_J7_fill_53178 rfl rfl rfl (by decide +kernel) ⟨Nat.le_of_ble_eq_true rfl, Nat.le_of_ble_eq_true rfl⟩) hE hK hP hD hS hA rfl hl.1 rfl (Nat.le_of_ble_eq_true rfl) dX3_clear_36 ⟨Nat.zero_le _, Nat.zero_le _⟩ (fun x36 H locs h36 hP hD hS => ?_)
        refine lv_iconst (v := 0) hx hb dX3_clear_39 (by decide) ?_
        refine lv_istore_n (lv' := [(1, .int 0), (0, .ref (ad 9 0))]) hx hb dX3_clear_40 rfl hl (by decide) rfl (fun ls hl => ?_)
        have lp_41 : ∀ (n_41 : Nat) (i : Nat) (u2 : cS) (x1 : Int32), (i ≤ 10) → (10 + 1 ≤ i + n_41) → (x1 = nI i) → (u2 = cF x36 12 0 0 i) → ∀ (H : Heap) (locs : List Loc), va_P D vwCl (cW ad y u2 R) H → va_D A (cW ad y u2 R) → va_S A s.heap H locs → ∀ (ls : Array Slot), lv_has ls 3 [(0, .ref (ad 9 0)), (1, .int x1)] → W p l e (headSpec wsX3_clear ({ frames := 1, cells := 0, slots := 0, locals := 23 })).room s m ([.ref (ad 9 0)] : List Value).toArray below meth c H locs 0 0 (MQ below (va_Qv (fun x' => x' = cClear x cm a) (cEnd D y ad R s.heap.size) A) ([.ref (ad 9 0)] : List Value).toArray s 0 0 A) (F0 m 41 ls []) := by
          intro n_41
          induction n_41 with
          | zero =>
            intro i u2 x1 hi hf ex1 hu9
            exact absurd hf (by omega)
          | succ n_41 ih_41 =>
            intro i u2 x1 hi hf ex1 hu9 H locs hP hD hS ls hl
            refine lv_iload_n hx hb dX3_clear_41 rfl (lv_at hl 1 rfl) ?_
            refine lv_bipush (v := 10) hx hb dX3_clear_42 (by decide) ?_
            refine lv_icmp_ge (tgt := 60) hx hb dX3_clear_44 (by decide) (fun c_44 => ?_) (fun c_44 => ?_)
            · have hin9 : i = 10 := by rw [ex1] at c_44; have := (nI_leI (a := 10) (by omega) (by omega)).mp c_44; omega
              refine lv_aload_n hx hb dX3_clear_60 rfl (lv_at hl 0 rfl) ?_
              refine lv_iconst (v := 0) hx hb dX3_clear_61 (by decide) ?_
              refine cp_X3_arrivals (i := 0) hx hb hts hin3 hown hK hP hD hS ((hR 9 (0)).mpr Nat.zero_lt_one) (by decide +kernel) dX3_clear_62 (fun H locs hP hD hS => ?_)
              refine lv_aload_n hx hb dX3_clear_65 rfl (lv_at hl 0 rfl) ?_
              refine lv_iconst (v := 0) hx hb dX3_clear_66 (by decide) ?_
              refine cp_X3_chosenOnes (i := 0) hx hb hts hin3 hown hK hP hD hS ((hR 9 (0)).mpr Nat.zero_lt_one) (by decide +kernel) dX3_clear_67 (fun H locs hP hD hS => ?_)
              refine lv_aload_n hx hb dX3_clear_70 rfl (lv_at hl 0 rfl) ?_
              refine lv_iconst (v := 0) hx hb dX3_clear_71 (by decide) ?_
              refine cp_X3_lots (i := 0) hx hb hts hin3 hown hK hP hD hS ((hR 9 (0)).mpr Nat.zero_lt_one) (by decide +kernel) dX3_clear_72 (fun H locs hP hD hS => ?_)
              exact c_retv hx hb hr hlocks hAe hK hP hD hS dX3_clear_75 (by rw [hu9, hin9, h36, hu, hjn]; rfl)
            · have hin9 : i < 10 := by rw [ex1] at c_44; exact Nat.not_le.mp (fun q9 => c_44 (nI_le (a := 10) q9 (by omega)))
              refine lv_aload_n hx hb dX3_clear_47 rfl (lv_at hl 0 rfl) ?_
              refine cg_X3_drawn (i := 0) hx hb hts hin3 hown hK hP ((hR 9 (0)).mpr Nat.zero_lt_one) (by decide +kernel) dX3_clear_48 ?_
              refine lv_iload_n hx hb dX3_clear_51 rfl (lv_at hl 1 rfl) ?_
              refine lv_iconst (v := 0) hx hb dX3_clear_52 (by decide) ?_
              refine cs_bool 12 (0) 10 hx hb hK hP hD hS ((hR 12 (0)).mpr Nat.zero_lt_one) (fun _ _ _ => rfl) (by rw [ex1]; exact vp_in_nI hin9 (by omega)) dX3_clear_53 (fun H locs hP hD hS => ?_)
              rw [nar0, ex1, nI_clamp (by omega)] at hP hD
              obtain ⟨x1_1, ex1_1⟩ : ∃ z : Int32, z = x1 + 1 := ⟨_, rfl⟩
              refine lv_iinc (v := x1_1) (lv' := [(1, .int x1_1), (0, .ref (ad 9 0))]) hx hb dX3_clear_54 hl (k := 1) rfl (by rw [ex1_1]; rfl) (by decide) rfl (fun ls hl => ?_)
              refine lv_goto (tgt := 41) hx hb dX3_clear_57 (by decide) ?_
              exact ih_41 (i + 1) _ _ (by omega) (by omega) (by rw [ex1_1, ex1]; exact nI_1 _) (by rw [hu9, cF_s]) _ _ hP hD hS _ (lv_sub hl [1, 0] rfl)
        exact lp_41 11 0 _ _ (Nat.zero_le _) (by omega) rfl (cF_0 _ _ _ _).symm _ _ hP hD hS _ (lv_sub hl [1, 0] rfl)
      · have hjn : j < a := by rw [hau, ex1] at c_7; exact Nat.not_le.mp (fun q9 => c_7 (nI_le q9 (by omega)))
        obtain ⟨h15, h15c⟩ := hcm j hjn
        have h15 : u.2.2 10 0 x1.toNatClampNeg = some (cm j) := by rw [hu2, ex1, nI_clamp (by omega)]; exact h15
        refine lv_aload_n hx hb dX3_clear_10 rfl (lv_at hl 0 rfl) ?_
        refine cg_X3_came (i := 0) hx hb hts hin3 hown hK hP ((hR 9 (0)).mpr Nat.zero_lt_one) (by decide +kernel) dX3_clear_11 ?_
        refine lv_iload_n hx hb dX3_clear_14 rfl (lv_at hl 1 rfl) ?_
        refine cl_ref 10 (0) 150 24 4 hx hb hK hP ((hR 10 (0)).mpr Nat.zero_lt_one) (fun _ _ _ => rfl) rfl (by rw [ex1]; exact vp_in_nI (by omega) (by omega)) dX3_clear_15 ?_
        refine lv_re (fun e9 => absurd (e9.symm.trans (h15)) (by simp)) (fun j9 e9 => ?_)
        rw [show j9 = cm j from Option.some.inj (e9.symm.trans (h15))]
        refine lv_astore_n (lv' := [(2, .ref (ad 24 (cm j))), (0, .ref (ad 9 0)), (1, .int x1)]) hx hb dX3_clear_16 rfl hl (by decide) rfl (fun ls hl => ?_)
        refine lv_aload_n hx hb dX3_clear_17 rfl (lv_at hl 0 rfl) ?_
        refine lv_ifnull hx hb dX3_clear_18 ?_
        refine lv_aload_n hx hb dX3_clear_21 rfl (lv_at hl 0 rfl) ?_
        refine c_callv (ci := 1) (q := (RX1, TX1, 10)) (κ := 24) (i := cm j) (As := []) (rest := []) ⟨hx, hb, hml, hown, hts⟩ (ctX1_leave l D y ad u R qs nC nT hR (cm j) h15c) (cwV 0 hts gX3_clear_X1_leave rfl rfl rfl (by decide +kernel) ⟨Nat.le_of_ble_eq_true rfl, Nat.le_of_ble_eq_true rfl⟩) ((hR 24 (cm j)).mpr h15c) (fun _ _ _ => ⟨_, rfl⟩) rfl hE hK hP hD hS hA rfl hl.1 rfl (Nat.le_of_ble_eq_true rfl) dX3_clear_22 ⟨Nat.zero_le _, Nat.zero_le _⟩ (fun x22 H locs h22 hP hD hS => ?_)
        obtain ⟨x1_2, ex1_2⟩ : ∃ z : Int32, z = x1 + 1 := ⟨_, rfl⟩
        refine lv_iinc (v := x1_2) (lv' := [(1, .int x1_2), (2, .ref (ad 24 (cm j))), (0, .ref (ad 9 0))]) hx hb dX3_clear_25 hl (k := 2) rfl (by rw [ex1_2]; rfl) (by decide) rfl (fun ls hl => ?_)
        refine lv_goto (tgt := 2) hx hb dX3_clear_28 (by decide) ?_
        exact ih_2 (j + 1) _ _ (by omega) (by omega) (by rw [ex1_2, ex1]; exact nI_1 _) (by rw [h22, hu, cClr]) _ _ hP hD hS _ (lv_sub hl [2, 0] rfl)
  exact lp_2 (a + 1) 0 _ _ (Nat.zero_le _) (by omega) rfl rfl _ _ hP hD hS _ (lv_sub hl [1, 0] rfl)
