/-! the landed program: what its calls share -/
section CT
variable {p : Program} {l : Launch} {e : Env} {Rm : Room} {s : State} {m : MethodId} {args : Array Value} {below : List Frame} {meth : Method} {c : Code} {H : Heap} {locs : List Loc} {cells slots : Nat} {Q : State → Prop}
variable {cc : ByteArray} {pc : Nat} {ls : Array Slot} {rest : List Value} {D : va_G} {ad : Nat → Nat → Nat} {y : Nat → ClassId} {x : cS} {R : List (Nat × Nat)} {i : Nat}
theorem cl_courtT {k : Nat} {t : Int32} (ht : t = nI k) (hk5 : k < 5) (hx : p.tables.exec = Jvm.exec) (hb : c.code = cc) (hK : va_K D vwCl (cT y) s) (hP : va_P D vwCl (cW ad y x R) H) (hm : (17, i) ∈ R) (hdg : decode cc pc = .ok (.aaload, 1)) (kk : W p l e Rm s m args below meth c H locs cells slots Q (F0 m (pc + 1) ls (.ref (ad 18 k) :: rest))) : W p l e Rm s m args below meth c H locs cells slots Q (F0 m pc ls (.int t :: .ref (ad 17 i) :: rest)) := by
  rw [ht]
  exact cl_courts hk5 hx hb hK hP hm hdg kk
end CT
def citF (n : Nat) (t : Int32) : Option Nat := if isC n t then some (sI t) else none
theorem citF_n {n : Nat} {t : Int32} (h : citF n t = none) : isC n t = false := by
  unfold citF at h
  split at h
  · cases h
  · rename_i h1; exact Bool.eq_false_iff.mpr h1
theorem citF_s {n j : Nat} {t : Int32} (hn : n ≤ 150) (h : citF n t = some j) : isC n t = true ∧ sI t < n ∧ j = sI t := by
  unfold citF at h
  split at h
  · rename_i h1
    obtain ⟨c, hc, e⟩ := (inR_c (show n < 2 ^ 31 by omega)).mp h1
    exact ⟨h1, by rw [e]; show (nI c).toNatClampNeg < n; rw [nI_clamp (by omega)]; exact hc, (Option.some.inj h).symm⟩
  · cases h
def crtF (t : Int32) : Option Nat := if isK t then some (sI t) else none
theorem crtF_n {t : Int32} (h : crtF t = none) : isK t = false := by
  unfold crtF at h
  split at h
  · cases h
  · rename_i h1; exact Bool.eq_false_iff.mpr h1
theorem crtF_s {j : Nat} {t : Int32} (h : crtF t = some j) : isK t = true ∧ sI t < 5 ∧ j = sI t := by
  unfold crtF at h
  split at h
  · rename_i h1
    obtain ⟨c, hc, e⟩ := (inR_k 5 (hi := 4) rfl (by omega)).mp h1
    exact ⟨h1, by rw [e]; show (nI c).toNatClampNeg < 5; rw [nI_clamp (by omega)]; exact hc, (Option.some.inj h).symm⟩
  · cases h
theorem cFo_lt (x : cS) (day : Int32) : ∀ T, cFo x day T < T + 2
  | 0 => Nat.lt_succ_self 1
  | T + 1 => by
    have := cFo_lt x day T
    rw [cFo]; split <;> omega
set_option maxHeartbeats 4000000 in
set_option maxRecDepth 100000 in
/-- citizenAt -/
theorem ctX9_citizenAt (l : Launch) (D : va_G) (y : Nat → ClassId) (ad : Nat → Nat → Nat) (x : cS) (R : List (Nat × Nat)) (qs : Nat → Nat × Nat) (nC nT : Nat) (hR : cHas R nC nT) (t : Int32) (hn : x.1 0 0 7 = nI nC) (hn1 : nC ≤ 150) (hro : ∀ c, c < nC → x.2.2 8 0 c = some c) : cMe l yX9_citizenAt wsX9_citizenAt ({ frames := 0, cells := 0, slots := 0, locals := 0 }) D y ad x R qs 24 [.ref (ad 0 0), .int t] (fun r x' => r = citF nC t ∧ x' = x) := by
  refine cMe_of (cc := cX9_citizenAt) (maxL := 2) (ret := (some (.object "LotMachine$Citizen"))) (by decide) rfl (Nat.le_of_ble_eq_true rfl) ?_
  intro p e s m below meth c A ls hat hAe hl
  obtain ⟨hx, hb, hr, hml, hts, hown, hlocks, hK, hP, hD, hA, hE⟩ := hat
  have hown : s.vm.findClass RX9 = some m.cls := hown
  have hin9 : ∀ w ∈ wsX90, w ∈ wsX9_citizenAt := fun _ h9 => List.mem_cons_of_mem _ (List.mem_append_right _ h9)
  have hl : lv_has ls 2 [(0, .ref (ad 0 0)), (1, .int t)] := hl
  have hS : va_S A s.heap s.heap [] := va_S.rf
  refine lv_iload_n hx hb dX9_citizenAt_0 rfl (lv_at hl 1 rfl) ?_
  refine lv_if_lt (tgt := 21) hx hb dX9_citizenAt_1 (by decide) (fun c_1 => ?_) (fun c_1 => ?_)
  · refine lv_null hx hb dX9_citizenAt_21 ?_
    exact c_rete (er := 24) (r := none) hx hb hr hlocks hAe hK hP hD hS dX9_citizenAt_22 (⟨by rw [citF, if_neg (by rw [isC_neg (by omega) c_1]; decide)], rfl⟩) rfl
  · refine lv_iload_n hx hb dX9_citizenAt_4 rfl (lv_at hl 1 rfl) ?_
    refine lv_aload_n hx hb dX9_citizenAt_5 rfl (lv_at hl 0 rfl) ?_
    refine cg_X9_citizens (i := 0) hx hb hts hin9 hown hK hP ((hR 0 (0)).mpr Nat.zero_lt_one) (by decide +kernel) dX9_citizenAt_6 ?_
    refine lv_icmp_ge (tgt := 21) hx hb dX9_citizenAt_9 (by decide) (fun c_9 => ?_) (fun c_9 => ?_)
    · rw [hn] at c_9
      refine lv_null hx hb dX9_citizenAt_21 ?_
      exact c_rete (er := 24) (r := none) hx hb hr hlocks hAe hK hP hD hS dX9_citizenAt_22 (⟨by rw [citF, if_neg (by rw [isC_ge (by omega) c_9]; decide)], rfl⟩) rfl
    · rw [hn] at c_9
      obtain ⟨g1, g2, g3⟩ := isC_lt (by omega) c_1 c_9
      have h17 := hro (sI t) g2
      refine lv_aload_n hx hb dX9_citizenAt_12 rfl (lv_at hl 0 rfl) ?_
      refine cg_X9_roll (i := 0) hx hb hts hin9 hown hK hP ((hR 0 (0)).mpr Nat.zero_lt_one) (by decide +kernel) dX9_citizenAt_13 ?_
      refine lv_iload_n hx hb dX9_citizenAt_16 rfl (lv_at hl 1 rfl) ?_
      refine cl_ref 8 (0) 150 24 4 hx hb hK hP ((hR 8 (0)).mpr Nat.zero_lt_one) (fun _ _ _ => rfl) rfl (sn_in g3 g2 hn1 (by omega)) dX9_citizenAt_17 ?_
      refine lv_re (fun e9 => absurd (e9.symm.trans (h17)) (by simp)) (fun j9 e9 => ?_)
      rw [show j9 = sI t from Option.some.inj (e9.symm.trans (h17))]
      refine lv_goto (tgt := 22) hx hb dX9_citizenAt_18 (by decide) ?_
      exact c_rete (er := 24) (r := some (sI t)) hx hb hr hlocks hAe hK hP hD hS dX9_citizenAt_22 (⟨by rw [citF, if_pos g1], rfl⟩) rfl
set_option maxHeartbeats 4000000 in
set_option maxRecDepth 100000 in
/-- courtAt -/
theorem ctX9_courtAt (l : Launch) (D : va_G) (y : Nat → ClassId) (ad : Nat → Nat → Nat) (x : cS) (R : List (Nat × Nat)) (qs : Nat → Nat × Nat) (nC nT : Nat) (hR : cHas R nC nT) (t : Int32) : cMe l yX9_courtAt wsX9_courtAt ({ frames := 0, cells := 0, slots := 0, locals := 0 }) D y ad x R qs 18 [.ref (ad 0 0), .int t] (fun r x' => r = crtF t ∧ x' = x) := by
  refine cMe_of (cc := cX9_courtAt) (maxL := 2) (ret := (some (.object "LotMachine$Court"))) (by decide) rfl (Nat.le_of_ble_eq_true rfl) ?_
  intro p e s m below meth c A ls hat hAe hl
  obtain ⟨hx, hb, hr, hml, hts, hown, hlocks, hK, hP, hD, hA, hE⟩ := hat
  have hown : s.vm.findClass RX9 = some m.cls := hown
  have hin9 : ∀ w ∈ wsX90, w ∈ wsX9_courtAt := fun _ h9 => List.mem_cons_of_mem _ (List.mem_append_right _ h9)
  have hl : lv_has ls 2 [(0, .ref (ad 0 0)), (1, .int t)] := hl
  have hS : va_S A s.heap s.heap [] := va_S.rf
  refine lv_iload_n hx hb dX9_courtAt_0 rfl (lv_at hl 1 rfl) ?_
  refine lv_if_lt (tgt := 18) hx hb dX9_courtAt_1 (by decide) (fun c_1 => ?_) (fun c_1 => ?_)
  · have g1 : isK t = false := isC_neg (n := 5) (by omega) c_1
    refine lv_null hx hb dX9_courtAt_18 ?_
    exact c_rete (er := 18) (r := none) hx hb hr hlocks hAe hK hP hD hS dX9_courtAt_19 (⟨by rw [crtF, g1]; rfl, rfl⟩) rfl
  · refine lv_iload_n hx hb dX9_courtAt_4 rfl (lv_at hl 1 rfl) ?_
    refine lv_iconst (v := 5) hx hb dX9_courtAt_5 (by decide) ?_
    refine lv_icmp_ge (tgt := 18) hx hb dX9_courtAt_6 (by decide) (fun c_6 => ?_) (fun c_6 => ?_)
    · have g1 : isK t = false := isC_ge (n := 5) (by omega) c_6
      refine lv_null hx hb dX9_courtAt_18 ?_
      exact c_rete (er := 18) (r := none) hx hb hr hlocks hAe hK hP hD hS dX9_courtAt_19 (⟨by rw [crtF, g1]; rfl, rfl⟩) rfl
    · obtain ⟨g1, g2, g3⟩ := isC_lt (n := 5) (by omega) c_1 c_6
      have g1 : isK t = true := g1
      refine lv_aload_n hx hb dX9_courtAt_9 rfl (lv_at hl 0 rfl) ?_
      refine cg_X9_courts (i := 0) hx hb hts hin9 hown hK hP ((hR 0 (0)).mpr Nat.zero_lt_one) (by decide +kernel) dX9_courtAt_10 ?_
      refine lv_iload_n hx hb dX9_courtAt_13 rfl (lv_at hl 1 rfl) ?_
      refine cl_courtT (g3) (g2) hx hb hK hP ((hR 17 (0)).mpr Nat.zero_lt_one) dX9_courtAt_14 ?_
      refine lv_goto (tgt := 19) hx hb dX9_courtAt_15 (by decide) ?_
      exact c_rete (er := 18) (r := some (sI t)) hx hb hr hlocks hAe hK hP hD hS dX9_courtAt_19 (⟨by rw [crtF, g1]; rfl, rfl⟩) rfl
def cCan (co : Nat → Nat) (t w : Int32) : Bool := isT t && isC (cMn co (sI t) 5 + 1) w
set_option maxHeartbeats 4000000 in
set_option maxRecDepth 100000 in
/-- canDraw -/
theorem ctX9_canDraw (l : Launch) (D : va_G) (y : Nat → ClassId) (ad : Nat → Nat → Nat) (x : cS) (R : List (Nat × Nat)) (qs : Nat → Nat × Nat) (nC nT : Nat) (hR : cHas R nC nT) (t w : Int32) (co : Nat → Nat) (hco : ∀ j, j < 50 → x.1 11 0 j = nI (co j) ∧ co j ≤ 150) : cMi l yX9_canDraw wsX9_canDraw ({ frames := 2, cells := 0, slots := 0, locals := 50 }) D y ad x R qs [.ref (ad 0 0), .int t, .int w] (fun r x' => r = zI (cCan co t w) ∧ x' = x) := by
  refine cMi_of (cc := cX9_canDraw) (maxL := 3) (ret := (some .boolean)) (by decide) rfl (Nat.le_of_ble_eq_true rfl) ?_
  intro p e s m below meth c A ls hat hAe hl
  obtain ⟨hx, hb, hr, hml, hts, hown, hlocks, hK, hP, hD, hA, hE⟩ := hat
  have hown : s.vm.findClass RX9 = some m.cls := hown
  have hin9 : ∀ w ∈ wsX90, w ∈ wsX9_canDraw := fun _ h9 => List.mem_cons_of_mem _ (List.mem_append_left _ (List.mem_append_right _ h9))
  have hin3 : ∀ w ∈ wsX30, w ∈ wsX9_canDraw := fun _ h9 => List.mem_cons_of_mem _ (List.mem_append_right _ h9)
  have hl : lv_has ls 3 [(0, .ref (ad 0 0)), (1, .int t), (2, .int w)] := hl
  have hS : va_S A s.heap s.heap [] := va_S.rf
  refine lv_iload_n hx hb dX9_canDraw_0 rfl (lv_at hl 1 rfl) ?_
  refine s_calli (As := [.int t]) (rest := []) ⟨hx, hb, hml, hown, hts⟩ (ctX9_isTribe l t) (va_cwS 1 hts gX9_canDraw_X9_isTribe rfl rfl rfl (by decide +kernel) ⟨Nat.le_of_ble_eq_true rfl, Nat.le_of_ble_eq_true rfl⟩) hP hS rfl hl.1 rfl (Nat.le_of_ble_eq_true rfl) dX9_canDraw_1 ⟨Nat.zero_le _, Nat.zero_le _⟩ (fun H locs hP hS => ?_)
  refine lv_if_eq (tgt := 27) hx hb dX9_canDraw_4 (by decide) (fun c_4 => ?_) (fun c_4 => ?_)
  · have b4 : isT t = false := (zI_eq _).mp c_4
    refine lv_iconst (v := 0) hx hb dX9_canDraw_27 (by decide) ?_
    exact c_reti hx hb hr hlocks hAe hK hP hD hS (by first | rfl | decide) dX9_canDraw_28 (⟨by rw [cCan, b4]; rfl, rfl⟩)
  · have b4 : isT t = true := (zI_ne _).mp c_4
    obtain ⟨tt, htt, ett⟩ := (inR_k 10 (hi := 9) rfl (by omega)).mp b4
    have hst : sI t = tt := by rw [ett]; exact nI_clamp (by omega)
    have hm150 := cMn_le co tt 5
    refine lv_iload_n hx hb dX9_canDraw_7 rfl (lv_at hl 2 rfl) ?_
    refine lv_if_lt (tgt := 27) hx hb dX9_canDraw_8 (by decide) (fun c_8 => ?_) (fun c_8 => ?_)
    · have g1 : isC (cMn co tt 5 + 1) w = false := isC_neg (by omega) c_8
      refine lv_iconst (v := 0) hx hb dX9_canDraw_27 (by decide) ?_
      exact c_reti hx hb hr hlocks hAe hK hP hD hS (by first | rfl | decide) dX9_canDraw_28 (⟨by rw [cCan, b4, hst, g1]; rfl, rfl⟩)
    · refine lv_iload_n hx hb dX9_canDraw_11 rfl (lv_at hl 2 rfl) ?_
      refine lv_aload_n hx hb dX9_canDraw_12 rfl (lv_at hl 0 rfl) ?_
      refine cg_X9_dawn (i := 0) hx hb hts hin9 hown hK hP ((hR 0 (0)).mpr Nat.zero_lt_one) (by decide +kernel) dX9_canDraw_13 ?_
      refine lv_iload_n hx hb dX9_canDraw_16 rfl (lv_at hl 1 rfl) ?_
      refine c_callip (ci := 3) (q := (RX3, TX3, 7)) (κ := 9) (i := 0) (As := [.int t]) (rest := [.int w]) ⟨hx, hb, hml, hown, hts⟩ (ctX3_rowsOf l D y ad x R qs nC nT hR t tt co ett htt hco) (cwV 1 hts gX9_canDraw_X3_rowsOf rfl rfl rfl (by decide +kernel) ⟨Nat.le_of_ble_eq_true rfl, Nat.le_of_ble_eq_true rfl⟩) ((hR 9 (0)).mpr Nat.zero_lt_one) (fun _ _ _ => ⟨_, rfl⟩) rfl hE hK hP hD hS hA rfl hl.1 rfl (Nat.le_of_ble_eq_true rfl) dX9_canDraw_17 ⟨Nat.zero_le _, Nat.zero_le _⟩ (fun H locs hP hD hS => ?_)
      refine lv_icmp_gt (tgt := 27) hx hb dX9_canDraw_20 (by decide) (fun c_20 => ?_) (fun c_20 => ?_)
      · have g1 : isC (cMn co tt 5 + 1) w = false := by obtain ⟨K, hK0, eK⟩ := nI_of c_8; rw [eK] at c_20 ⊢; have := (nI_ltI (by omega) (by omega)).mp c_20; exact isC_ge (by omega) (nI_le (by omega) hK0)
        refine lv_iconst (v := 0) hx hb dX9_canDraw_27 (by decide) ?_
        exact c_reti hx hb hr hlocks hAe hK hP hD hS (by first | rfl | decide) dX9_canDraw_28 (⟨by rw [cCan, b4, hst, g1]; rfl, rfl⟩)
      · have g1 : isC (cMn co tt 5 + 1) w = true := by obtain ⟨K, hK0, eK⟩ := nI_of c_8; rw [eK] at c_20 ⊢; have : ¬ cMn co tt 5 < K := fun q => c_20 ((nI_ltI (by omega) (by omega)).mpr q); exact (inR_c (by omega)).mpr ⟨K, by omega, rfl⟩
        refine lv_iconst (v := 1) hx hb dX9_canDraw_23 (by decide) ?_
        refine lv_goto (tgt := 28) hx hb dX9_canDraw_24 (by decide) ?_
        exact c_reti hx hb hr hlocks hAe hK hP hD hS (by first | rfl | decide) dX9_canDraw_28 (⟨by rw [cCan, b4, hst, g1]; rfl, rfl⟩)
def cSit (x : cS) (nT c : Nat) : Bool := !decide (x.1 24 c 4 = 0) && (decide (x.1 24 c 5 = 0) && !decide (x.1 0 0 8 - x.1 24 c 3 < x.1 26 (cFo x (x.1 0 0 8) nT) 0))
set_option maxHeartbeats 4000000 in
set_option maxRecDepth 100000 in
/-- maySit -/
theorem ctX9_maySit (l : Launch) (D : va_G) (y : Nat → ClassId) (ad : Nat → Nat → Nat) (x : cS) (R : List (Nat × Nat)) (qs : Nat → Nat × Nat) (nC nT : Nat) (hR : cHas R nC nT) (c9 : Nat) (hc : c9 < nC) (hsz : x.1 6 0 2 = nI nT) (hT15 : nT ≤ 15) (hTx : ∀ j, j < nT → x.2.2 7 0 j = some (j + 2)) : cMi l yX9_maySit wsX9_maySit ({ frames := 1, cells := 0, slots := 0, locals := 24 }) D y ad x R qs [.ref (ad 0 0), .ref (ad 24 c9)] (fun r x' => r = zI (cSit x nT c9) ∧ x' = x) := by
  refine cMi_of (cc := cX9_maySit) (maxL := 3) (ret := (some .boolean)) (by decide) rfl (Nat.le_of_ble_eq_true rfl) ?_
  intro p e s m below meth c A ls hat hAe hl
  obtain ⟨hx, hb, hr, hml, hts, hown, hlocks, hK, hP, hD, hA, hE⟩ := hat
  have hown : s.vm.findClass RX9 = some m.cls := hown
  have hin9 : ∀ w ∈ wsX90, w ∈ wsX9_maySit := fun _ h9 => List.mem_cons_of_mem _ (List.mem_append_left _ (List.mem_append_left _ (List.mem_append_left _ (List.mem_append_right _ h9))))
  have hin1 : ∀ w ∈ wsX10, w ∈ wsX9_maySit := fun _ h9 => List.mem_cons_of_mem _ (List.mem_append_left _ (List.mem_append_left _ (List.mem_append_right _ h9)))
  have hin4 : ∀ w ∈ wsX40, w ∈ wsX9_maySit := fun _ h9 => List.mem_cons_of_mem _ (List.mem_append_left _ (List.mem_append_right _ h9))
  have hin6 : ∀ w ∈ wsX60, w ∈ wsX9_maySit := fun _ h9 => List.mem_cons_of_mem _ (List.mem_append_right _ h9)
  have hl : lv_has ls 3 [(0, .ref (ad 0 0)), (1, .ref (ad 24 c9))] := hl
  have hS : va_S A s.heap s.heap [] := va_S.rf
  refine lv_aload_n hx hb dX9_maySit_0 rfl (lv_at hl 0 rfl) ?_
  refine cg_X9_book (i := 0) hx hb hts hin9 hown hK hP ((hR 0 (0)).mpr Nat.zero_lt_one) (by decide +kernel) dX9_maySit_1 ?_
  refine lv_aload_n hx hb dX9_maySit_4 rfl (lv_at hl 0 rfl) ?_
  refine cg_X9_clock (i := 0) hx hb hts hin9 hown hK hP ((hR 0 (0)).mpr Nat.zero_lt_one) (by decide +kernel) dX9_maySit_5 ?_
  refine c_callep (ci := 4) (q := (RX4, TX4, 3)) (κ := 6) (i := 0) (As := [.int _]) (rest := []) ⟨hx, hb, hml, hown, hts⟩ (ctX4_inForce l D y ad x R qs nC nT hR (x.1 0 0 8) hsz hT15 hTx) (cwV 1 hts gX9_maySit_X4_inForce rfl rfl rfl (by decide +kernel) ⟨Nat.le_of_ble_eq_true rfl, Nat.le_of_ble_eq_true rfl⟩) ((hR 6 (0)).mpr Nat.zero_lt_one) (fun _ _ _ => ⟨_, rfl⟩) rfl hE hK hP hD hS hA rfl hl.1 rfl (Nat.le_of_ble_eq_true rfl) dX9_maySit_8 ⟨Nat.zero_le _, Nat.zero_le _⟩ (fun H locs hP hD hS => ?_)
  refine lv_re (fun e9 => absurd (e9.symm.trans ((rfl : some (cFo x (x.1 0 0 8) nT) = some (cFo x (x.1 0 0 8) nT)))) (by simp)) (fun j9 e9 => ?_)
  rw [show j9 = cFo x (x.1 0 0 8) nT from Option.some.inj (e9.symm.trans ((rfl : some (cFo x (x.1 0 0 8) nT) = some (cFo x (x.1 0 0 8) nT))))]
  refine lv_iconst (v := 0) hx hb dX9_maySit_11 (by decide) ?_
  refine c_callip (ci := 6) (q := (RX6, TX6, 2)) (κ := 25) (i := cFo x (x.1 0 0 8) nT) (As := [.int 0]) (rest := []) ⟨hx, hb, hml, hown, hts⟩ (ctX6_answer l D y ad x R qs nC nT hR (cFo x (x.1 0 0 8) nT) 0 (cFo_lt x (x.1 0 0 8) nT)) (cwV 1 hts gX9_maySit_X6_answer rfl rfl rfl (by decide +kernel) ⟨Nat.le_of_ble_eq_true rfl, Nat.le_of_ble_eq_true rfl⟩) ((hR 25 (cFo x (x.1 0 0 8) nT)).mpr (cFo_lt x (x.1 0 0 8) nT)) (fun _ _ _ => ⟨_, rfl⟩) rfl hE hK hP hD hS hA rfl hl.1 rfl (Nat.le_of_ble_eq_true rfl) dX9_maySit_12 ⟨Nat.zero_le _, Nat.zero_le _⟩ (fun H locs hP hD hS => ?_)
  refine lv_topi (fun ag eag => ?_)
  refine lv_istore_n (lv' := [(2, .int ag), (0, .ref (ad 0 0)), (1, .ref (ad 24 c9))]) hx hb dX9_maySit_15 rfl hl (by decide) rfl (fun ls hl => ?_)
  rw [show cAns x (cFo x (x.1 0 0 8) nT) 0 = x.1 26 (cFo x (x.1 0 0 8) nT) 0 from cAns_k x _ (j := 0) (by omega)] at eag
  subst eag
  refine lv_aload_n hx hb dX9_maySit_16 rfl (lv_at hl 2 rfl) ?_
  refine cg_X1_sworn (i := c9) hx hb hts hin1 hown hK hP ((hR 24 (c9)).mpr hc) (by decide +kernel) dX9_maySit_17 ?_
  refine lv_if_eq (tgt := 47) hx hb dX9_maySit_20 (by decide) (fun c_20 => ?_) (fun c_20 => ?_)
  · refine lv_iconst (v := 0) hx hb dX9_maySit_47 (by decide) ?_
    exact c_reti hx hb hr hlocks hAe hK hP hD hS (by first | rfl | decide) dX9_maySit_48 (⟨by simp [zI, cSit, c_20], rfl⟩)
  · refine lv_aload_n hx hb dX9_maySit_23 rfl (lv_at hl 2 rfl) ?_
    refine cg_X1_owed (i := c9) hx hb hts hin1 hown hK hP ((hR 24 (c9)).mpr hc) (by decide +kernel) dX9_maySit_24 ?_
    refine lv_if_ne (tgt := 47) hx hb dX9_maySit_27 (by decide) (fun c_27 => ?_) (fun c_27 => ?_)
    · refine lv_iconst (v := 0) hx hb dX9_maySit_47 (by decide) ?_
      exact c_reti hx hb hr hlocks hAe hK hP hD hS (by first | rfl | decide) dX9_maySit_48 (⟨by simp [zI, cSit, c_20, c_27], rfl⟩)
    · refine lv_aload_n hx hb dX9_maySit_30 rfl (lv_at hl 1 rfl) ?_
      refine cg_X9_clock (i := 0) hx hb hts hin9 hown hK hP ((hR 0 (0)).mpr Nat.zero_lt_one) (by decide +kernel) dX9_maySit_31 ?_
      refine lv_aload_n hx hb dX9_maySit_34 rfl (lv_at hl 2 rfl) ?_
      refine cg_X1_born (i := c9) hx hb hts hin1 hown hK hP ((hR 24 (c9)).mpr hc) (by decide +kernel) dX9_maySit_35 ?_
      refine lv_isub hx hb dX9_maySit_38 ?_
      refine lv_iload_n hx hb dX9_maySit_39 rfl (lv_at hl 0 rfl) ?_
      refine lv_icmp_lt (tgt := 47) hx hb dX9_maySit_40 (by decide) (fun c_40 => ?_) (fun c_40 => ?_)
      · refine lv_iconst (v := 0) hx hb dX9_maySit_47 (by decide) ?_
        exact c_reti hx hb hr hlocks hAe hK hP hD hS (by first | rfl | decide) dX9_maySit_48 (⟨by simp [zI, cSit, c_20, c_27, c_40, Int32.not_le.mpr c_40], rfl⟩)
      · refine lv_iconst (v := 1) hx hb dX9_maySit_43 (by decide) ?_
        refine lv_goto (tgt := 48) hx hb dX9_maySit_44 (by decide) ?_
        exact c_reti hx hb hr hlocks hAe hK hP hD hS (by first | rfl | decide) dX9_maySit_48 (⟨by simp [zI, cSit, c_20, c_27, c_40, Int32.not_lt.mp c_40], rfl⟩)
def cPar (x : cS) (k n nC : Nat) (t : Int32) : Bool := isC nC t && decide (fInt (fun i => decide (x.1 19 k i = t)) n = -1)
set_option maxHeartbeats 4000000 in
set_option maxRecDepth 100000 in
/-- canBeParty -/
theorem ctX9_canBeParty (l : Launch) (D : va_G) (y : Nat → ClassId) (ad : Nat → Nat → Nat) (x : cS) (R : List (Nat × Nat)) (qs : Nat → Nat × Nat) (nC nT : Nat) (hR : cHas R nC nT) (t : Int32) (k n : Nat) (hn : x.1 0 0 7 = nI nC) (hn1 : nC ≤ 150) (hro : ∀ c, c < nC → x.2.2 8 0 c = some c) (hk5 : k < 5) (hs : x.1 18 k 3 = nI n) (hns : n ≤ 25) : cMi l yX9_canBeParty wsX9_canBeParty ({ frames := 1, cells := 0, slots := 0, locals := 22 }) D y ad x R qs [.ref (ad 0 0), .ref (ad 18 k), .int t] (fun r x' => r = zI (cPar x k n nC t) ∧ x' = x) := by
  refine cMi_of (cc := cX9_canBeParty) (maxL := 3) (ret := (some .boolean)) (by decide) rfl (Nat.le_of_ble_eq_true rfl) ?_
  intro p e s m below meth c A ls hat hAe hl
  obtain ⟨hx, hb, hr, hml, hts, hown, hlocks, hK, hP, hD, hA, hE⟩ := hat
  have hown : s.vm.findClass RX9 = some m.cls := hown
  have hin9 : ∀ w ∈ wsX90, w ∈ wsX9_canBeParty := fun _ h9 => List.mem_cons_of_mem _ (List.mem_append_left _ (List.mem_append_right _ h9))
  have hin2 : ∀ w ∈ wsX20, w ∈ wsX9_canBeParty := fun _ h9 => List.mem_cons_of_mem _ (List.mem_append_right _ h9)
  have hl : lv_has ls 3 [(0, .ref (ad 0 0)), (1, .ref (ad 18 k)), (2, .int t)] := hl
  have hS : va_S A s.heap s.heap [] := va_S.rf
  refine lv_aload_n hx hb dX9_canBeParty_0 rfl (lv_at hl 0 rfl) ?_
  refine lv_iload_n hx hb dX9_canBeParty_1 rfl (lv_at hl 2 rfl) ?_
  refine c_callep (ci := 9) (q := (RX9, TX9, 11)) (κ := 0) (i := 0) (As := [.int t]) (rest := []) ⟨hx, hb, hml, hown, hts⟩ (ctX9_citizenAt l D y ad x R qs nC nT hR (t) hn hn1 hro) (cwV 1 hts gX9_canBeParty_X9_citizenAt rfl rfl rfl (by decide +kernel) ⟨Nat.le_of_ble_eq_true rfl, Nat.le_of_ble_eq_true rfl⟩) ((hR 0 (0)).mpr Nat.zero_lt_one) (fun _ _ _ => ⟨_, rfl⟩) rfl hE hK hP hD hS hA rfl hl.1 rfl (Nat.le_of_ble_eq_true rfl) dX9_canBeParty_2 ⟨Nat.zero_le _, Nat.zero_le _⟩ (fun H locs hP hD hS => ?_)
  refine lv_re (fun e_2 => ?_) (fun c9 e_2 => ?_)
  · have b9 : isC nC (t) = false := citF_n e_2
    refine lv_ifnullN (tgt := 21) hx hb dX9_canBeParty_5 (by decide) ?_
    refine lv_iconst (v := 0) hx hb dX9_canBeParty_21 (by decide) ?_
    exact c_reti hx hb hr hlocks hAe hK hP hD hS (by first | rfl | decide) dX9_canBeParty_22 (⟨by rw [cPar, b9]; rfl, rfl⟩)
  · obtain ⟨b9, hb9, eb9⟩ := citF_s hn1 e_2
    rw [eb9]
    refine lv_ifnull hx hb dX9_canBeParty_5 ?_
    refine lv_aload_n hx hb dX9_canBeParty_8 rfl (lv_at hl 1 rfl) ?_
    refine lv_iload_n hx hb dX9_canBeParty_9 rfl (lv_at hl 2 rfl) ?_
    refine c_callip (ci := 2) (q := (RX2, TX2, 4)) (κ := 18) (i := k) (As := [.int t]) (rest := []) ⟨hx, hb, hml, hown, hts⟩ (ctX2_seatOf l D y ad x R qs nC nT hR k t n hk5 hs hns) (cwV 1 hts gX9_canBeParty_X2_seatOf rfl rfl rfl (by decide +kernel) ⟨Nat.le_of_ble_eq_true rfl, Nat.le_of_ble_eq_true rfl⟩) ((hR 18 (k)).mpr hk5) (fun _ _ _ => ⟨_, rfl⟩) rfl hE hK hP hD hS hA rfl hl.1 rfl (Nat.le_of_ble_eq_true rfl) dX9_canBeParty_10 ⟨Nat.zero_le _, Nat.zero_le _⟩ (fun H locs hP hD hS => ?_)
    refine lv_iconst (v := (-1)) hx hb dX9_canBeParty_13 (by decide) ?_
    refine lv_icmp_ne (tgt := 21) hx hb dX9_canBeParty_14 (by decide) (fun c_14 => ?_) (fun c_14 => ?_)
    · refine lv_iconst (v := 0) hx hb dX9_canBeParty_21 (by decide) ?_
      exact c_reti hx hb hr hlocks hAe hK hP hD hS (by first | rfl | decide) dX9_canBeParty_22 (⟨by rw [cPar, b9]; simp [zI, c_14], rfl⟩)
    · refine lv_iconst (v := 1) hx hb dX9_canBeParty_17 (by decide) ?_
      refine lv_goto (tgt := 22) hx hb dX9_canBeParty_18 (by decide) ?_
      exact c_reti hx hb hr hlocks hAe hK hP hD hS (by first | rfl | decide) dX9_canBeParty_22 (⟨by rw [cPar, b9]; simp [zI, c_14], rfl⟩)
def cOwe (x : cS) (c : Nat) (s9 : Int32) : cS := cI x 24 c 5 (x.1 24 c 5 + s9)
def cAddD (x : cS) (ns se : Nat → Nat) (c : Nat) (s9 : Int32) : cS := if isK (x.1 24 c 9) then cStrk (cOwe x c s9) (sI (x.1 24 c 9)) (se (sI (x.1 24 c 9))) (fInt (fun i => decide (x.1 19 (sI (x.1 24 c 9)) i = x.1 24 c 0)) (ns (sI (x.1 24 c 9)))) else cOwe x c s9
set_option maxHeartbeats 4000000 in
set_option maxRecDepth 100000 in
/-- addDebt -/
theorem ctX9_addDebt (l : Launch) (D : va_G) (y : Nat → ClassId) (ad : Nat → Nat → Nat) (x : cS) (R : List (Nat × Nat)) (qs : Nat → Nat × Nat) (nC nT : Nat) (hR : cHas R nC nT) (c9 : Nat) (s9 : Int32) (ns se : Nat → Nat) (hc : c9 < nC) (hns : ∀ k, k < 5 → x.1 18 k 3 = nI (ns k) ∧ ns k ≤ 25) (hse : ∀ k, k < 5 → x.1 20 k 5 = nI (se k) ∧ se k ≤ 25) : cMv l yX9_addDebt wsX9_addDebt ({ frames := 1, cells := 0, slots := 0, locals := 22 }) D y ad x R qs [.ref (ad 0 0), .ref (ad 24 c9), .int s9] (fun x' => x' = cAddD x ns se c9 s9) := by
  refine cMv_of (cc := cX9_addDebt) (maxL := 4) (ret := none) (by decide) rfl (Nat.le_of_ble_eq_true rfl) ?_
  intro p e s m below meth c A ls hat hAe hl
  obtain ⟨hx, hb, hr, hml, hts, hown, hlocks, hK, hP, hD, hA, hE⟩ := hat
  have hown : s.vm.findClass RX9 = some m.cls := hown
  have hin1 : ∀ w ∈ wsX10, w ∈ wsX9_addDebt := fun _ h9 => List.mem_cons_of_mem _ (List.mem_append_left _ (List.mem_append_left _ (List.mem_append_left _ (List.mem_append_right _ h9))))
  have hin2 : ∀ w ∈ wsX20, w ∈ wsX9_addDebt := fun _ h9 => List.mem_cons_of_mem _ (List.mem_append_left _ (List.mem_append_left _ (List.mem_append_right _ h9)))
  have hin9 : ∀ w ∈ wsX90, w ∈ wsX9_addDebt := fun _ h9 => List.mem_cons_of_mem _ (List.mem_append_left _ (List.mem_append_right _ h9))
  have hin7 : ∀ w ∈ wsX70, w ∈ wsX9_addDebt := fun _ h9 => List.mem_cons_of_mem _ (List.mem_append_right _ h9)
  have hl : lv_has ls 4 [(0, .ref (ad 0 0)), (1, .ref (ad 24 c9)), (2, .int s9)] := hl
  have hS : va_S A s.heap s.heap [] := va_S.rf
  refine lv_aload_n hx hb dX9_addDebt_0 rfl (lv_at hl 1 rfl) ?_
  refine lv_dup hx hb dX9_addDebt_1 rfl ?_
  refine cg_X1_owed (i := c9) hx hb hts hin1 hown hK hP ((hR 24 (c9)).mpr hc) (by decide +kernel) dX9_addDebt_2 ?_
  refine lv_iload_n hx hb dX9_addDebt_5 rfl (lv_at hl 2 rfl) ?_
  refine lv_iadd hx hb dX9_addDebt_6 ?_
  refine cp_X1_owed (i := c9) hx hb hts hin1 hown hK hP hD hS ((hR 24 (c9)).mpr hc) (by decide +kernel) dX9_addDebt_7 (fun H locs hP hD hS => ?_)
  have hP : va_P D vwCl (cW ad y (cOwe x c9 s9) R) H := hP
  have hD : va_D A (cW ad y (cOwe x c9 s9) R) := hD
  refine lv_aload_n hx hb dX9_addDebt_10 rfl (lv_at hl 0 rfl) ?_
  refine lv_aload_n hx hb dX9_addDebt_11 rfl (lv_at hl 1 rfl) ?_
  refine cg_X1_court (i := c9) hx hb hts hin1 hown hK hP ((hR 24 (c9)).mpr hc) (by decide +kernel) dX9_addDebt_12 ?_
  rw [show (cOwe x c9 s9).1 24 c9 9 = x.1 24 c9 9 by simp [cOwe, cI_r]]
  refine c_callep (ci := 9) (q := (RX9, TX9, 11)) (κ := 0) (i := 0) (As := [.int (x.1 24 c9 9)]) (rest := []) ⟨hx, hb, hml, hown, hts⟩ (ctX9_courtAt l D y ad (cOwe x c9 s9) R qs nC nT hR (x.1 24 c9 9)) (cwV 1 hts gX9_addDebt_X9_courtAt rfl rfl rfl (by decide +kernel) ⟨Nat.le_of_ble_eq_true rfl, Nat.le_of_ble_eq_true rfl⟩) ((hR 0 (0)).mpr Nat.zero_lt_one) (fun _ _ _ => ⟨_, rfl⟩) rfl hE hK hP hD hS hA rfl hl.1 rfl (Nat.le_of_ble_eq_true rfl) dX9_addDebt_15 ⟨Nat.zero_le _, Nat.zero_le _⟩ (fun H locs hP hD hS => ?_)
  refine lv_re (fun e_15 => ?_) (fun k9 e_15 => ?_)
  · have bk : isK (x.1 24 c9 9) = false := crtF_n e_15
    refine lv_astore_nN (lv' := [(3, .null), (0, .ref (ad 0 0)), (1, .ref (ad 24 c9)), (2, .int s9)]) hx hb dX9_addDebt_18 rfl hl (by decide) rfl (fun ls hl => ?_)
    refine lv_aload_nN hx hb dX9_addDebt_19 rfl (lv_at hl 0 rfl) ?_
    refine lv_ifnullN (tgt := 38) hx hb dX9_addDebt_20 (by decide) ?_
    exact c_retv hx hb hr hlocks hAe hK hP hD hS dX9_addDebt_38 (by rw [cAddD, if_neg (by rw [bk]; decide)])
  · obtain ⟨bk, hbk, ebk⟩ := crtF_s e_15
    rw [ebk]
    refine lv_astore_n (lv' := [(3, .ref (ad 18 (sI (x.1 24 c9 9)))), (0, .ref (ad 0 0)), (1, .ref (ad 24 c9)), (2, .int s9)]) hx hb dX9_addDebt_18 rfl hl (by decide) rfl (fun ls hl => ?_)
    refine lv_aload_n hx hb dX9_addDebt_19 rfl (lv_at hl 0 rfl) ?_
    refine lv_ifnull hx hb dX9_addDebt_20 ?_
    refine lv_aload_n hx hb dX9_addDebt_23 rfl (lv_at hl 0 rfl) ?_
    refine cg_X2_suit (i := sI (x.1 24 c9 9)) hx hb hts hin2 hown hK hP ((hR 18 (sI (x.1 24 c9 9))).mpr hbk) (by decide +kernel) dX9_addDebt_24 ?_
    refine lv_aload_n hx hb dX9_addDebt_27 rfl (lv_at hl 0 rfl) ?_
    refine lv_aload_n hx hb dX9_addDebt_28 rfl (lv_at hl 2 rfl) ?_
    refine cg_X1_number (i := c9) hx hb hts hin1 hown hK hP ((hR 24 (c9)).mpr hc) (by decide +kernel) dX9_addDebt_29 ?_
    rw [show (cOwe x c9 s9).1 24 c9 0 = x.1 24 c9 0 by simp [cOwe, cI_r]]
    refine c_callip (ci := 2) (q := (RX2, TX2, 4)) (κ := 18) (i := sI (x.1 24 c9 9)) (As := [.int (x.1 24 c9 0)]) (rest := [.ref (ad 20 (sI (x.1 24 c9 9)))]) ⟨hx, hb, hml, hown, hts⟩ (ctX2_seatOf l D y ad (cOwe x c9 s9) R qs nC nT hR (sI (x.1 24 c9 9)) (x.1 24 c9 0) (ns (sI (x.1 24 c9 9))) hbk (hns _ hbk).1 (hns _ hbk).2) (cwV 1 hts gX9_addDebt_X2_seatOf rfl rfl rfl (by decide +kernel) ⟨Nat.le_of_ble_eq_true rfl, Nat.le_of_ble_eq_true rfl⟩) ((hR 18 (sI (x.1 24 c9 9))).mpr hbk) (fun _ _ _ => ⟨_, rfl⟩) rfl hE hK hP hD hS hA rfl hl.1 rfl (Nat.le_of_ble_eq_true rfl) dX9_addDebt_32 ⟨Nat.zero_le _, Nat.zero_le _⟩ (fun H locs hP hD hS => ?_)
    refine c_callv (ci := 7) (q := (RX7, TX7, 16)) (κ := 20) (i := sI (x.1 24 c9 9)) (As := [.int _]) (rest := []) ⟨hx, hb, hml, hown, hts⟩ (ctX7_strikeOut l D y ad (cOwe x c9 s9) R qs nC nT hR (sI (x.1 24 c9 9)) (se (sI (x.1 24 c9 9))) _ hbk (hse _ hbk).1 (hse _ hbk).2) (cwV 1 hts gX9_addDebt_X7_strikeOut rfl rfl rfl (by decide +kernel) ⟨Nat.le_of_ble_eq_true rfl, Nat.le_of_ble_eq_true rfl⟩) ((hR 20 (sI (x.1 24 c9 9))).mpr hbk) (fun _ _ _ => ⟨_, rfl⟩) rfl hE hK hP hD hS hA rfl hl.1 rfl (Nat.le_of_ble_eq_true rfl) dX9_addDebt_35 ⟨Nat.zero_le _, Nat.zero_le _⟩ (fun x1 H locs hq hP hD hS => ?_)
    exact c_retv hx hb hr hlocks hAe hK hP hD hS dX9_addDebt_38 (by rw [hq, cAddD, if_pos bk]; rfl)
def cPay (x : cS) (k : Nat) (wg : Int32) (cs : Nat → Nat) : Nat → cS
  | 0 => x
  | j + 1 => if cCt x k j then cI (cI (cPay x k wg cs j) 24 (cs j) 6 ((cPay x k wg cs j).1 24 (cs j) 6 + wg)) 0 0 10 ((cPay x k wg cs j).1 0 0 10 + wg) else cPay x k wg cs j
theorem cPay_keep (x : cS) (k : Nat) (wg : Int32) (cs : Nat → Nat) : ∀ j, (∀ a b c, ¬ (a = 24 ∧ c = 6) → ¬ (a = 0 ∧ c = 10) → (cPay x k wg cs j).1 a b c = x.1 a b c) ∧ (cPay x k wg cs j).2 = x.2
  | 0 => ⟨fun _ _ _ _ _ => rfl, rfl⟩
  | j + 1 => by
    obtain ⟨h1, h2⟩ := cPay_keep x k wg cs j
    rw [cPay]
    split
    · refine ⟨fun a b c g1 g2 => ?_, h2⟩
      simp only [cI_r]
      rw [if_neg (fun q => g2 ⟨q.1, q.2.2⟩), if_neg (fun q => g1 ⟨q.1, q.2.2⟩)]
      exact h1 a b c g1 g2
    · exact ⟨h1, h2⟩
theorem cCt_keep {u x : cS} {k : Nat} (h : ∀ a b c, ¬ (a = 24 ∧ c = 6) → ¬ (a = 0 ∧ c = 10) → u.1 a b c = x.1 a b c) (j : Nat) : cCt u k j = cCt x k j := by
  simp only [cCt, h 22 k j (by simp) (by simp), h 21 k j (by simp) (by simp)]
set_option maxHeartbeats 4000000 in
set_option maxRecDepth 100000 in
/-- payDiscs -/
theorem ctX9_payDiscs (l : Launch) (D : va_G) (y : Nat → ClassId) (ad : Nat → Nat → Nat) (x : cS) (R : List (Nat × Nat)) (qs : Nat → Nat × Nat) (nC nT : Nat) (hR : cHas R nC nT) (wg : Int32) (k n : Nat) (cs : Nat → Nat) (hn : x.1 0 0 7 = nI nC) (hn1 : nC ≤ 150) (hro : ∀ c, c < nC → x.2.2 8 0 c = some c) (hk5 : k < 5) (hs : x.1 18 k 3 = nI n) (hs2 : x.1 20 k 5 = nI n) (hn25 : n ≤ 25) (hcs : ∀ i, i < n → x.1 19 k i = nI (cs i) ∧ cs i < nC) : cMv l yX9_payDiscs wsX9_payDiscs ({ frames := 1, cells := 0, slots := 0, locals := 21 }) D y ad x R qs [.ref (ad 0 0), .ref (ad 18 k), .int wg] (fun x' => x' = cPay x k wg cs n) := by
  refine cMv_of (cc := cX9_payDiscs) (maxL := 5) (ret := none) (by decide) rfl (Nat.le_of_ble_eq_true rfl) ?_
  intro p e s m below meth c A ls hat hAe hl
  obtain ⟨hx, hb, hr, hml, hts, hown, hlocks, hK, hP, hD, hA, hE⟩ := hat
  have hown : s.vm.findClass RX9 = some m.cls := hown
  have hin2 : ∀ w ∈ wsX20, w ∈ wsX9_payDiscs := fun _ h9 => List.mem_cons_of_mem _ (List.mem_append_left _ (List.mem_append_left _ (List.mem_append_left _ (List.mem_append_right _ h9))))
  have hin1 : ∀ w ∈ wsX10, w ∈ wsX9_payDiscs := fun _ h9 => List.mem_cons_of_mem _ (List.mem_append_left _ (List.mem_append_left _ (List.mem_append_right _ h9)))
  have hin9 : ∀ w ∈ wsX90, w ∈ wsX9_payDiscs := fun _ h9 => List.mem_cons_of_mem _ (List.mem_append_left _ (List.mem_append_right _ h9))
  have hin7 : ∀ w ∈ wsX70, w ∈ wsX9_payDiscs := fun _ h9 => List.mem_cons_of_mem _ (List.mem_append_right _ h9)
  have hl : lv_has ls 5 [(0, .ref (ad 0 0)), (1, .ref (ad 18 k)), (2, .int wg)] := hl
  have hS : va_S A s.heap s.heap [] := va_S.rf
  refine lv_iconst (v := 0) hx hb dX9_payDiscs_0 (by decide) ?_
  refine lv_istore_n (lv' := [(3, .int 0), (0, .ref (ad 0 0)), (1, .ref (ad 18 k)), (2, .int wg)]) hx hb dX9_payDiscs_1 rfl hl (by decide) rfl (fun ls hl => ?_)
  have lp_2 : ∀ (n_2 : Nat) (j : Nat) (u : cS) (x3 : Int32), (j ≤ n) → (n + 1 ≤ j + n_2) → (x3 = nI j) → (u = cPay x k wg cs j) → ∀ (H : Heap) (locs : List Loc), va_P D vwCl (cW ad y u R) H → va_D A (cW ad y u R) → va_S A s.heap H locs → ∀ (ls : Array Slot), lv_has ls 5 [(0, .ref (ad 0 0)), (1, .ref (ad 18 k)), (2, .int wg), (3, .int x3)] → W p l e (headSpec wsX9_payDiscs ({ frames := 1, cells := 0, slots := 0, locals := 21 })).room s m ([.ref (ad 0 0), .ref (ad 18 k), .int wg] : List Value).toArray below meth c H locs 0 0 (MQ below (va_Qv (fun x' => x' = cPay x k wg cs n) (cEnd D y ad R s.heap.size) A) ([.ref (ad 0 0), .ref (ad 18 k), .int wg] : List Value).toArray s 0 0 A) (F0 m 2 ls []) := by
    intro n_2
    induction n_2 with
    | zero =>
      intro j u x3 hj hf ex3 hu
      exact absurd hf (by omega)
    | succ n_2 ih_2 =>
      intro j u x3 hj hf ex3 hu H locs hP hD hS ls hl
      obtain ⟨hk1, hk2⟩ := cPay_keep x k wg cs j
      rw [← hu] at hk1 hk2
      have hsu : u.1 18 k 3 = nI n := (hk1 18 k 3 (by simp) (by simp)).trans hs
      have hsu2 : u.1 20 k 5 = nI n := (hk1 20 k 5 (by simp) (by simp)).trans hs2
      have hnu : u.1 0 0 7 = nI nC := (hk1 0 0 7 (by simp) (by simp)).trans hn
      have hrou : ∀ c, c < nC → u.2.2 8 0 c = some c := fun c hc => by rw [hk2]; exact hro c hc
      refine lv_iload_n hx hb dX9_payDiscs_2 rfl (lv_at hl 3 rfl) ?_
      refine lv_aload_n hx hb dX9_payDiscs_3 rfl (lv_at hl 1 rfl) ?_
      refine cg_X2_sitting (i := k) hx hb hts hin2 hown hK hP ((hR 18 (k)).mpr hk5) (by decide +kernel) dX9_payDiscs_4 ?_
      refine lv_icmp_ge (tgt := 64) hx hb dX9_payDiscs_7 (by decide) (fun c_7 => ?_) (fun c_7 => ?_)
      · have hjn : j = n := by rw [hsu, ex3] at c_7; have := (nI_leI (by omega) (by omega)).mp c_7; omega
        exact c_retv hx hb hr hlocks hAe hK hP hD hS dX9_payDiscs_64 (by rw [hu, hjn])
      · have hjn : j < n := by rw [hsu, ex3] at c_7; exact Nat.not_le.mp (fun q9 => c_7 (nI_le q9 (by omega)))
        refine lv_aload_n hx hb dX9_payDiscs_10 rfl (lv_at hl 0 rfl) ?_
        refine lv_aload_n hx hb dX9_payDiscs_11 rfl (lv_at hl 1 rfl) ?_
        refine lv_iload_n hx hb dX9_payDiscs_12 rfl (lv_at hl 3 rfl) ?_
        refine c_callip (ci := 2) (q := (RX2, TX2, 4)) (κ := 18) (i := k) (As := [.int x3]) (rest := [.ref (ad 0 0)]) ⟨hx, hb, hml, hown, hts⟩ (ctX2_sitterAt l D y ad u R qs nC nT hR k x3 n hk5 hsu hn25) (cwV 1 hts gX9_payDiscs_X2_sitterAt rfl rfl rfl (by decide +kernel) ⟨Nat.le_of_ble_eq_true rfl, Nat.le_of_ble_eq_true rfl⟩) ((hR 18 (k)).mpr hk5) (fun _ _ _ => ⟨_, rfl⟩) rfl hE hK hP hD hS hA rfl hl.1 rfl (Nat.le_of_ble_eq_true rfl) dX9_payDiscs_13 ⟨Nat.zero_le _, Nat.zero_le _⟩ (fun H locs hP hD hS => ?_)
        rw [show (if isC n x3 then u.1 19 k (sI x3) else -1) = nI (cs j) by rw [ex3, if_pos ((inR_c (by omega)).mpr ⟨j, hjn, rfl⟩), show sI (nI j) = j from nI_clamp (by omega), hk1 19 k j (by simp) (by simp)]; exact (hcs j hjn).1]
        have hcj := (hcs j hjn).2
        have h16 : citF nC (nI (cs j)) = some (cs j) := by rw [citF, if_pos ((inR_c (by omega)).mpr ⟨_, hcj, rfl⟩), show sI (nI (cs j)) = cs j from nI_clamp (by omega)]
        refine c_callep (ci := 9) (q := (RX9, TX9, 11)) (κ := 0) (i := 0) (As := [.int (nI (cs j))]) (rest := []) ⟨hx, hb, hml, hown, hts⟩ (ctX9_citizenAt l D y ad u R qs nC nT hR (nI (cs j)) hnu hn1 hrou) (cwV 1 hts gX9_payDiscs_X9_citizenAt rfl rfl rfl (by decide +kernel) ⟨Nat.le_of_ble_eq_true rfl, Nat.le_of_ble_eq_true rfl⟩) ((hR 0 (0)).mpr Nat.zero_lt_one) (fun _ _ _ => ⟨_, rfl⟩) rfl hE hK hP hD hS hA rfl hl.1 rfl (Nat.le_of_ble_eq_true rfl) dX9_payDiscs_16 ⟨Nat.zero_le _, Nat.zero_le _⟩ (fun H locs hP hD hS => ?_)
        refine lv_re (fun e9 => absurd (e9.symm.trans (h16)) (by simp)) (fun j9 e9 => ?_)
        rw [show j9 = cs j from Option.some.inj (e9.symm.trans (h16))]
        refine lv_astore (lv' := [(4, .ref (ad 24 (cs j))), (0, .ref (ad 0 0)), (1, .ref (ad 18 k)), (2, .int wg), (3, .int x3)]) hx hb dX9_payDiscs_19 hl (by decide) rfl (fun ls hl => ?_)
        refine lv_aload hx hb dX9_payDiscs_21 (lv_at hl 0 rfl) ?_
        refine lv_ifnull hx hb dX9_payDiscs_23 ?_
        refine lv_aload_n hx hb dX9_payDiscs_26 rfl (lv_at hl 2 rfl) ?_
        refine cg_X2_suit (i := k) hx hb hts hin2 hown hK hP ((hR 18 (k)).mpr hk5) (by decide +kernel) dX9_payDiscs_27 ?_
        refine lv_iload_n hx hb dX9_payDiscs_30 rfl (lv_at hl 4 rfl) ?_
        refine c_callip (ci := 7) (q := (RX7, TX7, 16)) (κ := 20) (i := k) (As := [.int x3]) (rest := []) ⟨hx, hb, hml, hown, hts⟩ (ctX7_counts l D y ad u R qs nC nT hR k n j x3 hk5 hsu2 hn25 hjn ex3) (cwV 1 hts gX9_payDiscs_X7_counts rfl rfl rfl (by decide +kernel) ⟨Nat.le_of_ble_eq_true rfl, Nat.le_of_ble_eq_true rfl⟩) ((hR 20 (k)).mpr hk5) (fun _ _ _ => ⟨_, rfl⟩) rfl hE hK hP hD hS hA rfl hl.1 rfl (Nat.le_of_ble_eq_true rfl) dX9_payDiscs_31 ⟨Nat.zero_le _, Nat.zero_le _⟩ (fun H locs hP hD hS => ?_)
        refine lv_if_eq (tgt := 58) hx hb dX9_payDiscs_34 (by decide) (fun c_34 => ?_) (fun c_34 => ?_)
        · have b34 : cCt u k j = false := (zI_eq _).mp c_34
          obtain ⟨x3_1, ex3_1⟩ : ∃ z : Int32, z = x3 + 1 := ⟨_, rfl⟩
          refine lv_iinc (v := x3_1) (lv' := [(3, .int x3_1), (4, .ref (ad 24 (cs j))), (0, .ref (ad 0 0)), (1, .ref (ad 18 k)), (2, .int wg)]) hx hb dX9_payDiscs_58 hl (k := 4) rfl (by rw [ex3_1]; rfl) (by decide) rfl (fun ls hl => ?_)
          refine lv_goto (tgt := 2) hx hb dX9_payDiscs_61 (by decide) ?_
          exact ih_2 (j + 1) _ _ (by omega) (by omega) (by rw [ex3_1, ex3]; exact nI_1 _) (by rw [cPay, ← cCt_keep hk1 j, b34, hu]; rfl) _ _ hP hD hS _ (lv_sub hl [2, 3, 4, 0] rfl)
        · have b34 : cCt u k j = true := (zI_ne _).mp c_34
          refine lv_aload hx hb dX9_payDiscs_37 (lv_at hl 0 rfl) ?_
          refine lv_dup hx hb dX9_payDiscs_39 rfl ?_
          refine cg_X1_earned (i := cs j) hx hb hts hin1 hown hK hP ((hR 24 (cs j)).mpr hcj) (by decide +kernel) dX9_payDiscs_40 ?_
          refine lv_iload_n hx hb dX9_payDiscs_43 rfl (lv_at hl 3 rfl) ?_
          refine lv_iadd hx hb dX9_payDiscs_44 ?_
          refine cp_X1_earned (i := cs j) hx hb hts hin1 hown hK hP hD hS ((hR 24 (cs j)).mpr hcj) (by decide +kernel) dX9_payDiscs_45 (fun H locs hP hD hS => ?_)
          refine lv_aload_n hx hb dX9_payDiscs_48 rfl (lv_at hl 1 rfl) ?_
          refine lv_dup hx hb dX9_payDiscs_49 rfl ?_
          refine cg_X9_payInAll (i := 0) hx hb hts hin9 hown hK hP ((hR 0 (0)).mpr Nat.zero_lt_one) (by decide +kernel) dX9_payDiscs_50 ?_
          refine lv_iload_n hx hb dX9_payDiscs_53 rfl (lv_at hl 3 rfl) ?_
          refine lv_iadd hx hb dX9_payDiscs_54 ?_
          refine cp_X9_payInAll (i := 0) hx hb hts hin9 hown hK hP hD hS ((hR 0 (0)).mpr Nat.zero_lt_one) (by decide +kernel) dX9_payDiscs_55 (fun H locs hP hD hS => ?_)
          obtain ⟨x3_2, ex3_2⟩ : ∃ z : Int32, z = x3 + 1 := ⟨_, rfl⟩
          refine lv_iinc (v := x3_2) (lv' := [(3, .int x3_2), (4, .ref (ad 24 (cs j))), (0, .ref (ad 0 0)), (1, .ref (ad 18 k)), (2, .int wg)]) hx hb dX9_payDiscs_58 hl (k := 4) rfl (by rw [ex3_2]; rfl) (by decide) rfl (fun ls hl => ?_)
          refine lv_goto (tgt := 2) hx hb dX9_payDiscs_61 (by decide) ?_
          exact ih_2 (j + 1) _ _ (by omega) (by omega) (by rw [ex3_2, ex3]; exact nI_1 _) (by rw [cPay, ← cCt_keep hk1 j, b34, hu]; simp [cI_r]) _ _ hP hD hS _ (lv_sub hl [2, 3, 4, 0] rfl)
  exact lp_2 (n + 1) 0 _ _ (Nat.zero_le _) (by omega) rfl rfl _ _ hP hD hS _ (lv_sub hl [1, 2, 3, 0] rfl)
