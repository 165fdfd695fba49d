/-! the landed program: the reader takes words, numbers -/
def cRU (u : Nat) (x : cS) : Prop := x.1 1 0 1 = nI u ∧ u ≤ 1000 ∧ cRI x
theorem cAdvS_k (x : cS) (u st : Nat) : (∀ a b c, a ≠ 3 → (cAdvS x u st).1 a b c = x.1 a b c) ∧ (cAdvS x u st).2 = x.2 ∧ (cAdvS x u st).1 3 0 4 = x.1 3 0 4 ∧ (cAdvS x u st).1 3 0 5 = x.1 3 0 5 := by
  unfold cAdvS cDg
  split
  · refine ⟨fun a b c h => by simp [cA2, cA1, cI_r, h], rfl, ?_, ?_⟩ <;> simp [cA2, cA1, cI_r]
  · split
    · refine ⟨fun a b c h => by simp [cA2, cA1, cI_r, h], rfl, ?_, ?_⟩ <;> simp [cA2, cA1, cI_r]
    · split
      · split
        · refine ⟨fun a b c h => by simp [cA2, cA1, cI_r, h], rfl, ?_, ?_⟩ <;> simp [cA2, cA1, cI_r]
        · refine ⟨fun a b c h => by simp [cA2, cA1, cI_r, h], rfl, ?_, ?_⟩ <;> simp [cA2, cA1, cI_r]
      · refine ⟨fun a b c h => by simp [cA1, cI_r, h], rfl, ?_, ?_⟩ <;> simp [cA1, cI_r]
theorem cAdvS_e (x : cS) {u st : Nat} (hu : u ≤ 1000) (hs : st ≤ 1000) : (cAdvS x u st).1 3 0 7 = nI st ∧ ∃ e, (cAdvS x u st).1 3 0 8 = nI e ∧ st ≤ e ∧ e ≤ 1000 := by
  unfold cAdvS cDg
  split
  · exact ⟨by simp [cA2, cA1, cI_r], st, by simp [cA2, cA1, cI_r], Nat.le_refl _, hs⟩
  · rename_i h
    split
    · have he := eoR_le x 97 122 hu (show st < u by omega)
      exact ⟨by simp [cA2, cA1, cI_r], _, by simp [cA2, cA1, cI_r], he.1, by omega⟩
    · split
      · have he := eoR_le x 48 57 hu (show st < u by omega)
        split
        · exact ⟨by simp [cA2, cA1, cI_r], _, by simp [cA2, cA1, cI_r], he.1, by omega⟩
        · exact ⟨by simp [cA2, cA1, cI_r], _, by simp [cA2, cA1, cI_r], he.1, by omega⟩
      · exact ⟨by simp [cA1, cI_r], st + 1, by simp [cA1, cI_r], by omega, by omega⟩
theorem cAdv_RU' {u : Nat} {x : cS} (h1 : x.1 1 0 1 = nI u) (h2 : u ≤ 1000) (h3 : sI (x.1 3 0 8) ≤ 1000) : cRU u (cAdv x u) := by
  obtain ⟨hb1, hb2⟩ := eoB_le x h2 h3
  obtain ⟨g1, e, g2, g3, g4⟩ := cAdvS_e x h2 hb2
  refine ⟨((cAdvS_k x u _).1 1 0 1 (by decide)).trans h1, h2, ?_⟩
  have e1 : sI ((cAdv x u).1 3 0 7) = eoB x u (sI (x.1 3 0 8)) := by rw [cAdv, g1]; exact nI_clamp (by omega)
  have e2 : sI ((cAdv x u).1 3 0 8) = e := by rw [cAdv, g2]; exact nI_clamp (by omega)
  exact ⟨by rw [e1]; exact g1, by rw [e2]; exact g2, by rw [e1, e2]; exact g3, by rw [e2]; exact g4⟩
theorem cAdv_RU {u : Nat} {x : cS} (h : cRU u x) : cRU u (cAdv x u) := cAdv_RU' h.1 h.2.1 h.2.2.2.2.2
def cbnd (x : Int32 × cS) (f : cS → Int32 × cS) : Int32 × cS := if x.1 = 0 then (0, x.2) else f x.2
def tkW (u j : Nat) (x : cS) : Int32 × cS := if cIsW u x j then (1, cAdv x u) else (0, cFail x 1)
def tkN (u w : Nat) (x : cS) : Int32 × cS := if x.1 3 0 6 = 2 then (1, cAdv (cI x 26 0 w (x.1 3 0 9)) u) else (0, cFail x 1)
def tkS (u : Nat) (x : cS) : Int32 × cS := if x.1 3 0 6 = 3 then (1, cAdv x u) else (0, cFail x 1)
def tkT (u : Nat) (x : cS) : Int32 × cS := if cIsW u x 6 || cIsW u x 5 then (1, cAdv (cI x 26 0 3 (zI (cIsW u x 6))) u) else (0, cFail x 1)
def tkF (u w : Nat) (x : cS) : Int32 × cS := if x.1 4 0 w = 0 then (1, cAdv (cI x 4 0 w 1) u) else (0, cFail x 3)
def tkK (u : Nat) (x : cS) : Int32 × cS := if x.1 3 0 6 = 2 then (if isC 6 (x.1 3 0 9) then (if x.1 5 0 (sI (x.1 3 0 9)) = 0 then (x.1 3 0 9, cAdv (cI x 5 0 (sI (x.1 3 0 9)) 1) u) else (-1, cFail x 3)) else (-1, cFail x 2)) else (-1, cFail x 1)
theorem tkW_1 {u j : Nat} {x x' : cS} {r : Int32} (h : cRU u x) (e : (r, x') = tkW u j x) (hr : ¬ r = 0) : cRU u x' := by
  unfold tkW at e
  split at e
  · rw [(Prod.mk.inj e).2]; exact cAdv_RU h
  · exact absurd (Prod.mk.inj e).1 hr
theorem tkN_1 {u w : Nat} {x x' : cS} {r : Int32} (h : cRU u x) (e : (r, x') = tkN u w x) (hr : ¬ r = 0) : cRU u x' := by
  unfold tkN at e
  split at e
  · rw [(Prod.mk.inj e).2]; exact cAdv_RU (x := cI x 26 0 w (x.1 3 0 9)) h
  · exact absurd (Prod.mk.inj e).1 hr
theorem tkF_1 {u w : Nat} {x x' : cS} {r : Int32} (h : cRU u x) (e : (r, x') = tkF u w x) (hr : ¬ r = 0) : cRU u x' := by
  unfold tkF at e
  split at e
  · rw [(Prod.mk.inj e).2]; exact cAdv_RU (x := cI x 4 0 w 1) h
  · exact absurd (Prod.mk.inj e).1 hr
set_option maxHeartbeats 4000000 in
set_option maxRecDepth 100000 in
/-- LawReader.takeWord -/
theorem ctX5_takeWord (l : Launch) (D : va_G) (y : Nat → ClassId) (ad : Nat → Nat → Nat) (x : cS) (R : List (Nat × Nat)) (qs : Nat → Nat × Nat) (nC nT : Nat) (hR : cHas R nC nT) (u j : Nat) (h : cRU u x) (hj : j < 10) : cMi l yX5_takeWord wsX5_takeWord ({ frames := 6, cells := 0, slots := 0, locals := 128 }) D y ad x R qs [.ref (ad 3 0), .ref ((qs j).1)] (fun r x' => (r, x') = tkW u j x) := by
  refine cMi_of (cc := cX5_takeWord) (maxL := 2) (ret := (some .boolean)) (by decide) rfl (Nat.le_of_ble_eq_true rfl) ?_
  intro p e s m below meth c A ls hat hAe hl
  obtain ⟨hx, hb, hr, hml, hts, hown, hlocks, hK, hP, hD, hA, hE⟩ := hat
  have hown : s.vm.findClass RX5 = some m.cls := hown
  have hin5 : ∀ w ∈ wsX50, w ∈ wsX5_takeWord := fun _ h9 => List.mem_cons_of_mem _ (List.mem_append_left _ (List.mem_append_right _ h9))
  have hin8 : ∀ w ∈ wsX80, w ∈ wsX5_takeWord := fun _ h9 => List.mem_cons_of_mem _ (List.mem_append_right _ h9)
  have hl : lv_has ls 2 [(0, .ref (ad 3 0)), (1, .ref ((qs j).1))] := hl
  have hS : va_S A s.heap s.heap [] := va_S.rf
  refine lv_aload_n hx hb dX5_takeWord_0 rfl (lv_at hl 0 rfl) ?_
  refine lv_aload_n hx hb dX5_takeWord_1 rfl (lv_at hl 1 rfl) ?_
  refine c_callip (ci := 5) (q := (RX5, TX5, 10)) (κ := 3) (i := 0) (As := [.ref ((qs j).1)]) (rest := []) ⟨hx, hb, hml, hown, hts⟩ (ctX5_isWord l D y ad x R qs nC nT hR u j h.1 h.2.1 h.2.2 hj) (cwV 1 hts gX5_takeWord_X5_isWord rfl rfl rfl (by decide +kernel) ⟨Nat.le_of_ble_eq_true rfl, Nat.le_of_ble_eq_true rfl⟩) ((hR 3 (0)).mpr Nat.zero_lt_one) (fun _ _ _ => ⟨_, rfl⟩) rfl hE hK hP hD hS hA rfl hl.1 rfl (Nat.le_of_ble_eq_true rfl) dX5_takeWord_2 ⟨Nat.zero_le _, Nat.zero_le _⟩ (fun H locs hP hD hS => ?_)
  refine lv_if_ne (tgt := 14) hx hb dX5_takeWord_5 (by decide) (fun c_5 => ?_) (fun c_5 => ?_)
  · have b5 : cIsW u x j = true := (zI_ne _).mp c_5
    refine lv_aload_n hx hb dX5_takeWord_14 rfl (lv_at hl 0 rfl) ?_
    refine c_callv (ci := 5) (q := (RX5, TX5, 10)) (κ := 3) (i := 0) (As := []) (rest := []) ⟨hx, hb, hml, hown, hts⟩ (ctX5_advance l D y ad (x) R qs nC nT hR u (sI (x.1 3 0 8)) h.1 h.2.1 h.2.2.2.1 h.2.2.2.2.2) (cwV 0 hts gX5_takeWord_X5_advance rfl rfl rfl (by decide +kernel) ⟨Nat.le_of_ble_eq_true rfl, Nat.le_of_ble_eq_true rfl⟩) ((hR 3 (0)).mpr Nat.zero_lt_one) (fun _ _ _ => ⟨_, rfl⟩) rfl hE hK hP hD hS hA rfl hl.1 rfl (Nat.le_of_ble_eq_true rfl) dX5_takeWord_15 ⟨Nat.zero_le _, Nat.zero_le _⟩ (fun xa H locs ha9 hP hD hS => ?_)
    refine lv_iconst (v := 1) hx hb dX5_takeWord_18 (by decide) ?_
    exact c_reti hx hb hr hlocks hAe hK hP hD hS (by first | rfl | decide) dX5_takeWord_19 (by rw [tkW, if_pos b5, ha9])
  · have b5 : cIsW u x j = false := (zI_eq _).mp c_5
    refine lv_aload_n hx hb dX5_takeWord_8 rfl (lv_at hl 0 rfl) ?_
    refine lv_iconst (v := 1) hx hb dX5_takeWord_9 (by decide) ?_
    refine c_calli (ci := 5) (q := (RX5, TX5, 10)) (κ := 3) (i := 0) (As := [.int 1]) (rest := []) ⟨hx, hb, hml, hown, hts⟩ (ctX5_fail l D y ad x R qs nC nT hR 1) (cwV 1 hts gX5_takeWord_X5_fail rfl rfl rfl (by decide +kernel) ⟨Nat.le_of_ble_eq_true rfl, Nat.le_of_ble_eq_true rfl⟩) ((hR 3 (0)).mpr Nat.zero_lt_one) (fun _ _ _ => ⟨_, rfl⟩) rfl hE hK hP hD hS hA rfl hl.1 rfl (Nat.le_of_ble_eq_true rfl) dX5_takeWord_10 ⟨Nat.zero_le _, Nat.zero_le _⟩ (fun rf xf H locs hf9 hP hD hS => ?_)
    exact c_reti hx hb hr hlocks hAe hK hP hD hS (by rw [hf9.1]; rfl) dX5_takeWord_13 (by rw [tkW, if_neg (by rw [b5]; decide), hf9.1, hf9.2])
set_option maxHeartbeats 4000000 in
set_option maxRecDepth 100000 in
/-- LawReader.takeNumber -/
theorem ctX5_takeNumber (l : Launch) (D : va_G) (y : Nat → ClassId) (ad : Nat → Nat → Nat) (x : cS) (R : List (Nat × Nat)) (qs : Nat → Nat × Nat) (nC nT : Nat) (hR : cHas R nC nT) (u w : Nat) (wi : Int32) (h : cRU u x) (hw : wi = nI w) (hw1 : w < 51) : cMi l yX5_takeNumber wsX5_takeNumber ({ frames := 2, cells := 0, slots := 0, locals := 44 }) D y ad x R qs [.ref (ad 3 0), .int wi] (fun r x' => (r, x') = tkN u w x) := by
  refine cMi_of (cc := cX5_takeNumber) (maxL := 2) (ret := (some .boolean)) (by decide) rfl (Nat.le_of_ble_eq_true rfl) ?_
  intro p e s m below meth c A ls hat hAe hl
  obtain ⟨hx, hb, hr, hml, hts, hown, hlocks, hK, hP, hD, hA, hE⟩ := hat
  have hown : s.vm.findClass RX5 = some m.cls := hown
  have hin5 : ∀ w ∈ wsX50, w ∈ wsX5_takeNumber := fun _ h9 => List.mem_cons_of_mem _ (List.mem_append_left _ (List.mem_append_left _ (List.mem_append_right _ h9)))
  have hin6 : ∀ w ∈ wsX60, w ∈ wsX5_takeNumber := fun _ h9 => List.mem_cons_of_mem _ (List.mem_append_left _ (List.mem_append_right _ h9))
  have hin8 : ∀ w ∈ wsX80, w ∈ wsX5_takeNumber := fun _ h9 => List.mem_cons_of_mem _ (List.mem_append_right _ h9)
  have hl : lv_has ls 2 [(0, .ref (ad 3 0)), (1, .int wi)] := hl
  have hS : va_S A s.heap s.heap [] := va_S.rf
  refine lv_aload_n hx hb dX5_takeNumber_0 rfl (lv_at hl 0 rfl) ?_
  refine cg_X5_token (i := 0) hx hb hts hin5 hown hK hP ((hR 3 (0)).mpr Nat.zero_lt_one) (by decide +kernel) dX5_takeNumber_1 ?_
  refine lv_iconst (v := 2) hx hb dX5_takeNumber_4 (by decide) ?_
  refine lv_icmp_eq (tgt := 14) hx hb dX5_takeNumber_5 (by decide) (fun c_5 => ?_) (fun c_5 => ?_)
  · refine lv_aload_n hx hb dX5_takeNumber_14 rfl (lv_at hl 0 rfl) ?_
    refine cg_X5_draft (i := 0) hx hb hts hin5 hown hK hP ((hR 3 (0)).mpr Nat.zero_lt_one) (by decide +kernel) dX5_takeNumber_15 ?_
    refine lv_iload_n hx hb dX5_takeNumber_18 rfl (lv_at hl 1 rfl) ?_
    refine lv_aload_n hx hb dX5_takeNumber_19 rfl (lv_at hl 0 rfl) ?_
    refine cg_X5_number (i := 0) hx hb hts hin5 hown hK hP ((hR 3 (0)).mpr Nat.zero_lt_one) (by decide +kernel) dX5_takeNumber_20 ?_
    refine c_callv (ci := 6) (q := (RX6, TX6, 2)) (κ := 25) (i := 0) (As := [.int (wi), .int (x.1 3 0 9)]) (rest := []) ⟨hx, hb, hml, hown, hts⟩ (ctX6_tell l D y ad x R qs nC nT hR 0 (wi) (x.1 3 0 9) (Nat.zero_lt_succ _)) (cwV 2 hts gX5_takeNumber_X6_tell rfl rfl rfl (by decide +kernel) ⟨Nat.le_of_ble_eq_true rfl, Nat.le_of_ble_eq_true rfl⟩) ((hR 25 (0)).mpr (Nat.zero_lt_succ _)) (fun _ _ _ => ⟨_, rfl⟩) rfl hE hK hP hD hS hA rfl hl.1 rfl (Nat.le_of_ble_eq_true rfl) dX5_takeNumber_23 ⟨Nat.zero_le _, Nat.zero_le _⟩ (fun xt9 H locs ht9 hP hD hS => ?_)
    rw [ht9, hw, cTell_k x 0 _ hw1] at hP hD
    refine lv_aload_n hx hb dX5_takeNumber_26 rfl (lv_at hl 0 rfl) ?_
    refine c_callv (ci := 5) (q := (RX5, TX5, 10)) (κ := 3) (i := 0) (As := []) (rest := []) ⟨hx, hb, hml, hown, hts⟩ (ctX5_advance l D y ad (cI x 26 0 w (x.1 3 0 9)) R qs nC nT hR u (sI (x.1 3 0 8)) h.1 h.2.1 h.2.2.2.1 h.2.2.2.2.2) (cwV 0 hts gX5_takeNumber_X5_advance rfl rfl rfl (by decide +kernel) ⟨Nat.le_of_ble_eq_true rfl, Nat.le_of_ble_eq_true rfl⟩) ((hR 3 (0)).mpr Nat.zero_lt_one) (fun _ _ _ => ⟨_, rfl⟩) rfl hE hK hP hD hS hA rfl hl.1 rfl (Nat.le_of_ble_eq_true rfl) dX5_takeNumber_27 ⟨Nat.zero_le _, Nat.zero_le _⟩ (fun xa H locs ha9 hP hD hS => ?_)
    refine lv_iconst (v := 1) hx hb dX5_takeNumber_30 (by decide) ?_
    exact c_reti hx hb hr hlocks hAe hK hP hD hS (by first | rfl | decide) dX5_takeNumber_31 (by rw [tkN, if_pos c_5, ha9])
  · refine lv_aload_n hx hb dX5_takeNumber_8 rfl (lv_at hl 0 rfl) ?_
    refine lv_iconst (v := 1) hx hb dX5_takeNumber_9 (by decide) ?_
    refine c_calli (ci := 5) (q := (RX5, TX5, 10)) (κ := 3) (i := 0) (As := [.int 1]) (rest := []) ⟨hx, hb, hml, hown, hts⟩ (ctX5_fail l D y ad x R qs nC nT hR 1) (cwV 1 hts gX5_takeNumber_X5_fail rfl rfl rfl (by decide +kernel) ⟨Nat.le_of_ble_eq_true rfl, Nat.le_of_ble_eq_true rfl⟩) ((hR 3 (0)).mpr Nat.zero_lt_one) (fun _ _ _ => ⟨_, rfl⟩) rfl hE hK hP hD hS hA rfl hl.1 rfl (Nat.le_of_ble_eq_true rfl) dX5_takeNumber_10 ⟨Nat.zero_le _, Nat.zero_le _⟩ (fun rf xf H locs hf9 hP hD hS => ?_)
    exact c_reti hx hb hr hlocks hAe hK hP hD hS (by rw [hf9.1]; rfl) dX5_takeNumber_13 (by rw [tkN, if_neg c_5, hf9.1, hf9.2])
set_option maxHeartbeats 4000000 in
set_option maxRecDepth 100000 in
/-- LawReader.takeSemicolon -/
theorem ctX5_takeSemicolon (l : Launch) (D : va_G) (y : Nat → ClassId) (ad : Nat → Nat → Nat) (x : cS) (R : List (Nat × Nat)) (qs : Nat → Nat × Nat) (nC nT : Nat) (hR : cHas R nC nT) (u : Nat) (h : cRU u x) : cMi l yX5_takeSemicolon wsX5_takeSemicolon ({ frames := 2, cells := 0, slots := 0, locals := 44 }) D y ad x R qs [.ref (ad 3 0)] (fun r x' => (r, x') = tkS u x) := by
  refine cMi_of (cc := cX5_takeSemicolon) (maxL := 1) (ret := (some .boolean)) (by decide) rfl (Nat.le_of_ble_eq_true rfl) ?_
  intro p e s m below meth c A ls hat hAe hl
  obtain ⟨hx, hb, hr, hml, hts, hown, hlocks, hK, hP, hD, hA, hE⟩ := hat
  have hown : s.vm.findClass RX5 = some m.cls := hown
  have hin5 : ∀ w ∈ wsX50, w ∈ wsX5_takeSemicolon := fun _ h9 => List.mem_cons_of_mem _ (List.mem_append_left _ (List.mem_append_right _ h9))
  have hin8 : ∀ w ∈ wsX80, w ∈ wsX5_takeSemicolon := fun _ h9 => List.mem_cons_of_mem _ (List.mem_append_right _ h9)
  have hl : lv_has ls 1 [(0, .ref (ad 3 0))] := hl
  have hS : va_S A s.heap s.heap [] := va_S.rf
  refine lv_aload_n hx hb dX5_takeSemicolon_0 rfl (lv_at hl 0 rfl) ?_
  refine cg_X5_token (i := 0) hx hb hts hin5 hown hK hP ((hR 3 (0)).mpr Nat.zero_lt_one) (by decide +kernel) dX5_takeSemicolon_1 ?_
  refine lv_iconst (v := 3) hx hb dX5_takeSemicolon_4 (by decide) ?_
  refine lv_icmp_eq (tgt := 14) hx hb dX5_takeSemicolon_5 (by decide) (fun c_5 => ?_) (fun c_5 => ?_)
  · refine lv_aload_n hx hb dX5_takeSemicolon_14 rfl (lv_at hl 0 rfl) ?_
    refine c_callv (ci := 5) (q := (RX5, TX5, 10)) (κ := 3) (i := 0) (As := []) (rest := []) ⟨hx, hb, hml, hown, hts⟩ (ctX5_advance l D y ad (x) R qs nC nT hR u (sI (x.1 3 0 8)) h.1 h.2.1 h.2.2.2.1 h.2.2.2.2.2) (cwV 0 hts gX5_takeSemicolon_X5_advance rfl rfl rfl (by decide +kernel) ⟨Nat.le_of_ble_eq_true rfl, Nat.le_of_ble_eq_true rfl⟩) ((hR 3 (0)).mpr Nat.zero_lt_one) (fun _ _ _ => ⟨_, rfl⟩) rfl hE hK hP hD hS hA rfl hl.1 rfl (Nat.le_of_ble_eq_true rfl) dX5_takeSemicolon_15 ⟨Nat.zero_le _, Nat.zero_le _⟩ (fun xa H locs ha9 hP hD hS => ?_)
    refine lv_iconst (v := 1) hx hb dX5_takeSemicolon_18 (by decide) ?_
    exact c_reti hx hb hr hlocks hAe hK hP hD hS (by first | rfl | decide) dX5_takeSemicolon_19 (by rw [tkS, if_pos c_5, ha9])
  · refine lv_aload_n hx hb dX5_takeSemicolon_8 rfl (lv_at hl 0 rfl) ?_
    refine lv_iconst (v := 1) hx hb dX5_takeSemicolon_9 (by decide) ?_
    refine c_calli (ci := 5) (q := (RX5, TX5, 10)) (κ := 3) (i := 0) (As := [.int 1]) (rest := []) ⟨hx, hb, hml, hown, hts⟩ (ctX5_fail l D y ad x R qs nC nT hR 1) (cwV 1 hts gX5_takeSemicolon_X5_fail rfl rfl rfl (by decide +kernel) ⟨Nat.le_of_ble_eq_true rfl, Nat.le_of_ble_eq_true rfl⟩) ((hR 3 (0)).mpr Nat.zero_lt_one) (fun _ _ _ => ⟨_, rfl⟩) rfl hE hK hP hD hS hA rfl hl.1 rfl (Nat.le_of_ble_eq_true rfl) dX5_takeSemicolon_10 ⟨Nat.zero_le _, Nat.zero_le _⟩ (fun rf xf H locs hf9 hP hD hS => ?_)
    exact c_reti hx hb hr hlocks hAe hK hP hD hS (by rw [hf9.1]; rfl) dX5_takeSemicolon_13 (by rw [tkS, if_neg c_5, hf9.1, hf9.2])
set_option maxHeartbeats 4000000 in
set_option maxRecDepth 100000 in
/-- LawReader.takeFirstWord -/
theorem ctX5_takeFirstWord (l : Launch) (D : va_G) (y : Nat → ClassId) (ad : Nat → Nat → Nat) (x : cS) (R : List (Nat × Nat)) (qs : Nat → Nat × Nat) (nC nT : Nat) (hR : cHas R nC nT) (u w : Nat) (wi : Int32) (h : cRU u x) (hw : wi = nI w) (hw1 : w < 4) : cMi l yX5_takeFirstWord wsX5_takeFirstWord ({ frames := 2, cells := 0, slots := 0, locals := 44 }) D y ad x R qs [.ref (ad 3 0), .int wi] (fun r x' => (r, x') = tkF u w x) := by
  refine cMi_of (cc := cX5_takeFirstWord) (maxL := 2) (ret := (some .boolean)) (by decide) rfl (Nat.le_of_ble_eq_true rfl) ?_
  intro p e s m below meth c A ls hat hAe hl
  obtain ⟨hx, hb, hr, hml, hts, hown, hlocks, hK, hP, hD, hA, hE⟩ := hat
  have hown : s.vm.findClass RX5 = some m.cls := hown
  have hin5 : ∀ w ∈ wsX50, w ∈ wsX5_takeFirstWord := fun _ h9 => List.mem_cons_of_mem _ (List.mem_append_left _ (List.mem_append_right _ h9))
  have hin8 : ∀ w ∈ wsX80, w ∈ wsX5_takeFirstWord := fun _ h9 => List.mem_cons_of_mem _ (List.mem_append_right _ h9)
  have hl : lv_has ls 2 [(0, .ref (ad 3 0)), (1, .int wi)] := hl
  have hS : va_S A s.heap s.heap [] := va_S.rf
  have hc : wi.toNatClampNeg = w := by rw [hw]; exact nI_clamp (by omega)
  have hw0 : ¬ wi < 0 := fun q9 => by rw [hw] at q9; have := (nI_ltI (b := 0) (by omega) (by omega)).mp q9; omega
  have hw4 : ¬ nI 4 ≤ wi := fun q9 => by rw [hw] at q9; have := (nI_leI (by omega) (by omega)).mp q9; omega
  refine lv_iload_n hx hb dX5_takeFirstWord_0 rfl (lv_at hl 1 rfl) ?_
  refine lv_if_lt (tgt := 22) hx hb dX5_takeFirstWord_1 (by decide) (fun c_1 => ?_) (fun c_1 => ?_)
  · exact absurd c_1 hw0
  · refine lv_iload_n hx hb dX5_takeFirstWord_4 rfl (lv_at hl 1 rfl) ?_
    refine lv_aload_n hx hb dX5_takeFirstWord_5 rfl (lv_at hl 0 rfl) ?_
    refine cg_X5_told (i := 0) hx hb hts hin5 hown hK hP ((hR 3 (0)).mpr Nat.zero_lt_one) (by decide +kernel) dX5_takeFirstWord_6 ?_
    refine c_len (t0 := 2) 4 (0) hx hb hK hP ((hR 4 (0)).mpr Nat.zero_lt_one) rfl rfl dX5_takeFirstWord_9 ?_
    refine lv_icmp_ge (tgt := 22) hx hb dX5_takeFirstWord_10 (by decide) (fun c_10 => ?_) (fun c_10 => ?_)
    · exact absurd c_10 hw4
    · refine lv_aload_n hx hb dX5_takeFirstWord_13 rfl (lv_at hl 0 rfl) ?_
      refine cg_X5_told (i := 0) hx hb hts hin5 hown hK hP ((hR 3 (0)).mpr Nat.zero_lt_one) (by decide +kernel) dX5_takeFirstWord_14 ?_
      refine lv_iload_n hx hb dX5_takeFirstWord_17 rfl (lv_at hl 1 rfl) ?_
      refine cl_bool 4 (0) 4 hx hb hK hP ((hR 4 (0)).mpr Nat.zero_lt_one) (fun _ _ _ => rfl) (by rw [hw]; exact vp_in_nI hw1 (by omega)) dX5_takeFirstWord_18 ?_
      refine lv_if_eq (tgt := 28) hx hb dX5_takeFirstWord_19 (by decide) (fun c_19 => ?_) (fun c_19 => ?_)
      · rw [hc] at c_19
        refine lv_aload_n hx hb dX5_takeFirstWord_28 rfl (lv_at hl 0 rfl) ?_
        refine cg_X5_told (i := 0) hx hb hts hin5 hown hK hP ((hR 3 (0)).mpr Nat.zero_lt_one) (by decide +kernel) dX5_takeFirstWord_29 ?_
        refine lv_iload_n hx hb dX5_takeFirstWord_32 rfl (lv_at hl 1 rfl) ?_
        refine lv_iconst (v := 1) hx hb dX5_takeFirstWord_33 (by decide) ?_
        refine cs_bool 4 (0) 4 hx hb hK hP hD hS ((hR 4 (0)).mpr Nat.zero_lt_one) (fun _ _ _ => rfl) (by rw [hw]; exact vp_in_nI hw1 (by omega)) dX5_takeFirstWord_34 (fun H locs hP hD hS => ?_)
        rw [nar1, hc] at hP hD
        refine lv_aload_n hx hb dX5_takeFirstWord_35 rfl (lv_at hl 0 rfl) ?_
        refine c_callv (ci := 5) (q := (RX5, TX5, 10)) (κ := 3) (i := 0) (As := []) (rest := []) ⟨hx, hb, hml, hown, hts⟩ (ctX5_advance l D y ad (cI x 4 0 w 1) R qs nC nT hR u (sI (x.1 3 0 8)) h.1 h.2.1 h.2.2.2.1 h.2.2.2.2.2) (cwV 0 hts gX5_takeFirstWord_X5_advance rfl rfl rfl (by decide +kernel) ⟨Nat.le_of_ble_eq_true rfl, Nat.le_of_ble_eq_true rfl⟩) ((hR 3 (0)).mpr Nat.zero_lt_one) (fun _ _ _ => ⟨_, rfl⟩) rfl hE hK hP hD hS hA rfl hl.1 rfl (Nat.le_of_ble_eq_true rfl) dX5_takeFirstWord_36 ⟨Nat.zero_le _, Nat.zero_le _⟩ (fun xa H locs ha9 hP hD hS => ?_)
        refine lv_iconst (v := 1) hx hb dX5_takeFirstWord_39 (by decide) ?_
        exact c_reti hx hb hr hlocks hAe hK hP hD hS (by first | rfl | decide) dX5_takeFirstWord_40 (by rw [tkF, if_pos c_19, ha9])
      · rw [hc] at c_19
        refine lv_aload_n hx hb dX5_takeFirstWord_22 rfl (lv_at hl 0 rfl) ?_
        refine lv_iconst (v := 3) hx hb dX5_takeFirstWord_23 (by decide) ?_
        refine c_calli (ci := 5) (q := (RX5, TX5, 10)) (κ := 3) (i := 0) (As := [.int 3]) (rest := []) ⟨hx, hb, hml, hown, hts⟩ (ctX5_fail l D y ad x R qs nC nT hR 3) (cwV 1 hts gX5_takeFirstWord_X5_fail rfl rfl rfl (by decide +kernel) ⟨Nat.le_of_ble_eq_true rfl, Nat.le_of_ble_eq_true rfl⟩) ((hR 3 (0)).mpr Nat.zero_lt_one) (fun _ _ _ => ⟨_, rfl⟩) rfl hE hK hP hD hS hA rfl hl.1 rfl (Nat.le_of_ble_eq_true rfl) dX5_takeFirstWord_24 ⟨Nat.zero_le _, Nat.zero_le _⟩ (fun rf xf H locs hf9 hP hD hS => ?_)
        exact c_reti hx hb hr hlocks hAe hK hP hD hS (by rw [hf9.1]; rfl) dX5_takeFirstWord_27 (by rw [tkF, if_neg c_19, hf9.1, hf9.2])
theorem bo {a b : Bool} (h : ¬ (a || b) = true) : a = false ∧ b = false := by cases a <;> cases b <;> simp_all
set_option maxHeartbeats 4000000 in
set_option maxRecDepth 100000 in
/-- LawReader.takeTie -/
theorem ctX5_takeTie (l : Launch) (D : va_G) (y : Nat → ClassId) (ad : Nat → Nat → Nat) (x : cS) (R : List (Nat × Nat)) (qs : Nat → Nat × Nat) (nC nT : Nat) (hR : cHas R nC nT) (u : Nat) (h : cRU u x) : cMi l yX5_takeTie wsX5_takeTie ({ frames := 6, cells := 0, slots := 0, locals := 128 }) D y ad x R qs [.ref (ad 3 0)] (fun r x' => (r, x') = tkT u x) := by
  refine cMi_of (cc := cX5_takeTie) (maxL := 2) (ret := (some .boolean)) (by decide) rfl (Nat.le_of_ble_eq_true rfl) ?_
  intro p e s m below meth c A ls hat hAe hl
  obtain ⟨hx, hb, hr, hml, hts, hown, hlocks, hK, hP, hD, hA, hE⟩ := hat
  have hown : s.vm.findClass RX5 = some m.cls := hown
  have hin5 : ∀ w ∈ wsX50, w ∈ wsX5_takeTie := fun _ h9 => List.mem_cons_of_mem _ (List.mem_append_left _ (List.mem_append_left _ (List.mem_append_right _ h9)))
  have hin8 : ∀ w ∈ wsX80, w ∈ wsX5_takeTie := fun _ h9 => List.mem_cons_of_mem _ (List.mem_append_left _ (List.mem_append_right _ h9))
  have hin6 : ∀ w ∈ wsX60, w ∈ wsX5_takeTie := fun _ h9 => List.mem_cons_of_mem _ (List.mem_append_right _ h9)
  have hl : lv_has ls 2 [(0, .ref (ad 3 0))] := hl
  have hS : va_S A s.heap s.heap [] := va_S.rf
  refine lv_aload_n hx hb dX5_takeTie_0 rfl (lv_at hl 0 rfl) ?_
  refine va_ldcS hx hb hown (show vk_R RX5 114 "convict" (qs 6).1 s from (hE.2 6 (by omega)).2) dX5_takeTie_1 ?_
  refine c_callip (ci := 5) (q := (RX5, TX5, 10)) (κ := 3) (i := 0) (As := [.ref ((qs 6).1)]) (rest := []) ⟨hx, hb, hml, hown, hts⟩ (ctX5_isWord l D y ad x R qs nC nT hR u 6 h.1 h.2.1 h.2.2 (by omega)) (cwV 1 hts gX5_takeTie_X5_isWord rfl rfl rfl (by decide +kernel) ⟨Nat.le_of_ble_eq_true rfl, Nat.le_of_ble_eq_true rfl⟩) ((hR 3 (0)).mpr Nat.zero_lt_one) (fun _ _ _ => ⟨_, rfl⟩) rfl hE hK hP hD hS hA rfl hl.1 rfl (Nat.le_of_ble_eq_true rfl) dX5_takeTie_3 ⟨Nat.zero_le _, Nat.zero_le _⟩ (fun H locs hP hD hS => ?_)
  refine lv_topi (fun x1 ex1 => ?_)
  refine lv_istore_n (lv' := [(1, .int x1), (0, .ref (ad 3 0))]) hx hb dX5_takeTie_6 rfl hl (by decide) rfl (fun ls hl => ?_)
  refine lv_iload_n hx hb dX5_takeTie_7 rfl (lv_at hl 0 rfl) ?_
  refine lv_if_ne (tgt := 26) hx hb dX5_takeTie_8 (by decide) (fun c_8 => ?_) (fun c_8 => ?_)
  · have b8 : cIsW u x 6 = true := (zI_ne _).mp (by rw [← ex1]; exact c_8)
    have j_40 : ∀ z3 : Int32, z3 = zI (cIsW u x 6) → ∀ (H : Heap) (locs : List Loc), va_P D vwCl (cW ad y x R) H → va_D A (cW ad y x R) → va_S A s.heap H locs → W p l e (headSpec wsX5_takeTie ({ frames := 6, cells := 0, slots := 0, locals := 128 })).room s m ([.ref (ad 3 0)] : List Value).toArray below meth c H locs 0 0 (MQ below (va_Qi (fun r x' => (r, x') = tkT u x) (cEnd D y ad R s.heap.size) A) ([.ref (ad 3 0)] : List Value).toArray s 0 0 A) (F0 m 40 ls (.int z3 :: [.int 3, .ref (ad 25 0)])) := by
      intro z3 hz3 H locs hP hD hS
      refine c_callv (ci := 6) (q := (RX6, TX6, 2)) (κ := 25) (i := 0) (As := [.int (3), .int (z3)]) (rest := []) ⟨hx, hb, hml, hown, hts⟩ (ctX6_tell l D y ad x R qs nC nT hR 0 (3) (z3) (Nat.zero_lt_succ _)) (cwV 2 hts gX5_takeTie_X6_tell rfl rfl rfl (by decide +kernel) ⟨Nat.le_of_ble_eq_true rfl, Nat.le_of_ble_eq_true rfl⟩) ((hR 25 (0)).mpr (Nat.zero_lt_succ _)) (fun _ _ _ => ⟨_, rfl⟩) rfl hE hK hP hD hS hA rfl hl.1 rfl (Nat.le_of_ble_eq_true rfl) dX5_takeTie_40 ⟨Nat.zero_le _, Nat.zero_le _⟩ (fun xt9 H locs ht9 hP hD hS => ?_)
      rw [ht9, show cTell x 0 3 z3 = cI x 26 0 3 z3 from cTell_k x 0 z3 (j := 3) (by omega), hz3] at hP hD
      refine lv_aload_n hx hb dX5_takeTie_43 rfl (lv_at hl 1 rfl) ?_
      refine c_callv (ci := 5) (q := (RX5, TX5, 10)) (κ := 3) (i := 0) (As := []) (rest := []) ⟨hx, hb, hml, hown, hts⟩ (ctX5_advance l D y ad (cI x 26 0 3 (zI (cIsW u x 6))) R qs nC nT hR u (sI (x.1 3 0 8)) h.1 h.2.1 h.2.2.2.1 h.2.2.2.2.2) (cwV 0 hts gX5_takeTie_X5_advance rfl rfl rfl (by decide +kernel) ⟨Nat.le_of_ble_eq_true rfl, Nat.le_of_ble_eq_true rfl⟩) ((hR 3 (0)).mpr Nat.zero_lt_one) (fun _ _ _ => ⟨_, rfl⟩) rfl hE hK hP hD hS hA rfl hl.1 rfl (Nat.le_of_ble_eq_true rfl) dX5_takeTie_44 ⟨Nat.zero_le _, Nat.zero_le _⟩ (fun xa H locs ha9 hP hD hS => ?_)
      refine lv_iconst (v := 1) hx hb dX5_takeTie_47 (by decide) ?_
      exact c_reti hx hb hr hlocks hAe hK hP hD hS (by first | rfl | decide) dX5_takeTie_48 (by rw [tkT, if_pos (by simp [b8]), ha9])
    refine lv_aload_n hx hb dX5_takeTie_26 rfl (lv_at hl 1 rfl) ?_
    refine cg_X5_draft (i := 0) hx hb hts hin5 hown hK hP ((hR 3 (0)).mpr Nat.zero_lt_one) (by decide +kernel) dX5_takeTie_27 ?_
    refine lv_iconst (v := 3) hx hb dX5_takeTie_30 (by decide) ?_
    refine lv_iload_n hx hb dX5_takeTie_31 rfl (lv_at hl 0 rfl) ?_
    refine lv_if_eq (tgt := 39) hx hb dX5_takeTie_32 (by decide) (fun c_32 => ?_) (fun c_32 => ?_)
    · have b35 : cIsW u x 6 = false := (zI_eq _).mp (by rw [← ex1]; exact c_32)
      refine lv_iconst (v := 0) hx hb dX5_takeTie_39 (by decide) ?_
      exact j_40 _ (by rw [b35]; rfl) _ _ hP hD hS
    · have b35 : cIsW u x 6 = true := (zI_ne _).mp (by rw [← ex1]; exact c_32)
      refine lv_iconst (v := 1) hx hb dX5_takeTie_35 (by decide) ?_
      refine lv_goto (tgt := 40) hx hb dX5_takeTie_36 (by decide) ?_
      exact j_40 _ (by rw [b35]; rfl) _ _ hP hD hS
  · have b8 : cIsW u x 6 = false := (zI_eq _).mp (by rw [← ex1]; exact c_8)
    refine lv_aload_n hx hb dX5_takeTie_11 rfl (lv_at hl 1 rfl) ?_
    refine va_ldcS hx hb hown (show vk_R RX5 116 "acquit" (qs 5).1 s from (hE.2 5 (by omega)).2) dX5_takeTie_12 ?_
    refine c_callip (ci := 5) (q := (RX5, TX5, 10)) (κ := 3) (i := 0) (As := [.ref ((qs 5).1)]) (rest := []) ⟨hx, hb, hml, hown, hts⟩ (ctX5_isWord l D y ad x R qs nC nT hR u 5 h.1 h.2.1 h.2.2 (by omega)) (cwV 1 hts gX5_takeTie_X5_isWord rfl rfl rfl (by decide +kernel) ⟨Nat.le_of_ble_eq_true rfl, Nat.le_of_ble_eq_true rfl⟩) ((hR 3 (0)).mpr Nat.zero_lt_one) (fun _ _ _ => ⟨_, rfl⟩) rfl hE hK hP hD hS hA rfl hl.1 rfl (Nat.le_of_ble_eq_true rfl) dX5_takeTie_14 ⟨Nat.zero_le _, Nat.zero_le _⟩ (fun H locs hP hD hS => ?_)
    refine lv_if_ne (tgt := 26) hx hb dX5_takeTie_17 (by decide) (fun c_17 => ?_) (fun c_17 => ?_)
    · have b17 : cIsW u x 5 = true := (zI_ne _).mp c_17
      have j_40 : ∀ z3 : Int32, z3 = zI (cIsW u x 6) → ∀ (H : Heap) (locs : List Loc), va_P D vwCl (cW ad y x R) H → va_D A (cW ad y x R) → va_S A s.heap H locs → W p l e (headSpec wsX5_takeTie ({ frames := 6, cells := 0, slots := 0, locals := 128 })).room s m ([.ref (ad 3 0)] : List Value).toArray below meth c H locs 0 0 (MQ below (va_Qi (fun r x' => (r, x') = tkT u x) (cEnd D y ad R s.heap.size) A) ([.ref (ad 3 0)] : List Value).toArray s 0 0 A) (F0 m 40 ls (.int z3 :: [.int 3, .ref (ad 25 0)])) := by
        intro z3 hz3 H locs hP hD hS
        refine c_callv (ci := 6) (q := (RX6, TX6, 2)) (κ := 25) (i := 0) (As := [.int (3), .int (z3)]) (rest := []) ⟨hx, hb, hml, hown, hts⟩ (ctX6_tell l D y ad x R qs nC nT hR 0 (3) (z3) (Nat.zero_lt_succ _)) (cwV 2 hts gX5_takeTie_X6_tell rfl rfl rfl (by decide +kernel) ⟨Nat.le_of_ble_eq_true rfl, Nat.le_of_ble_eq_true rfl⟩) ((hR 25 (0)).mpr (Nat.zero_lt_succ _)) (fun _ _ _ => ⟨_, rfl⟩) rfl hE hK hP hD hS hA rfl hl.1 rfl (Nat.le_of_ble_eq_true rfl) dX5_takeTie_40 ⟨Nat.zero_le _, Nat.zero_le _⟩ (fun xt9 H locs ht9 hP hD hS => ?_)
        rw [ht9, show cTell x 0 3 z3 = cI x 26 0 3 z3 from cTell_k x 0 z3 (j := 3) (by omega), hz3] at hP hD
        refine lv_aload_n hx hb dX5_takeTie_43 rfl (lv_at hl 1 rfl) ?_
        refine c_callv (ci := 5) (q := (RX5, TX5, 10)) (κ := 3) (i := 0) (As := []) (rest := []) ⟨hx, hb, hml, hown, hts⟩ (ctX5_advance l D y ad (cI x 26 0 3 (zI (cIsW u x 6))) R qs nC nT hR u (sI (x.1 3 0 8)) h.1 h.2.1 h.2.2.2.1 h.2.2.2.2.2) (cwV 0 hts gX5_takeTie_X5_advance rfl rfl rfl (by decide +kernel) ⟨Nat.le_of_ble_eq_true rfl, Nat.le_of_ble_eq_true rfl⟩) ((hR 3 (0)).mpr Nat.zero_lt_one) (fun _ _ _ => ⟨_, rfl⟩) rfl hE hK hP hD hS hA rfl hl.1 rfl (Nat.le_of_ble_eq_true rfl) dX5_takeTie_44 ⟨Nat.zero_le _, Nat.zero_le _⟩ (fun xa H locs ha9 hP hD hS => ?_)
        refine lv_iconst (v := 1) hx hb dX5_takeTie_47 (by decide) ?_
        exact c_reti hx hb hr hlocks hAe hK hP hD hS (by first | rfl | decide) dX5_takeTie_48 (by rw [tkT, if_pos (by simp [b8, b17]), ha9])
      refine lv_aload_n hx hb dX5_takeTie_26 rfl (lv_at hl 1 rfl) ?_
      refine cg_X5_draft (i := 0) hx hb hts hin5 hown hK hP ((hR 3 (0)).mpr Nat.zero_lt_one) (by decide +kernel) dX5_takeTie_27 ?_
      refine lv_iconst (v := 3) hx hb dX5_takeTie_30 (by decide) ?_
      refine lv_iload_n hx hb dX5_takeTie_31 rfl (lv_at hl 0 rfl) ?_
      refine lv_if_eq (tgt := 39) hx hb dX5_takeTie_32 (by decide) (fun c_32 => ?_) (fun c_32 => ?_)
      · have b35 : cIsW u x 6 = false := (zI_eq _).mp (by rw [← ex1]; exact c_32)
        refine lv_iconst (v := 0) hx hb dX5_takeTie_39 (by decide) ?_
        exact j_40 _ (by rw [b35]; rfl) _ _ hP hD hS
      · have b35 : cIsW u x 6 = true := (zI_ne _).mp (by rw [← ex1]; exact c_32)
        refine lv_iconst (v := 1) hx hb dX5_takeTie_35 (by decide) ?_
        refine lv_goto (tgt := 40) hx hb dX5_takeTie_36 (by decide) ?_
        exact j_40 _ (by rw [b35]; rfl) _ _ hP hD hS
    · have b17 : cIsW u x 5 = false := (zI_eq _).mp c_17
      refine lv_aload_n hx hb dX5_takeTie_20 rfl (lv_at hl 1 rfl) ?_
      refine lv_iconst (v := 1) hx hb dX5_takeTie_21 (by decide) ?_
      refine c_calli (ci := 5) (q := (RX5, TX5, 10)) (κ := 3) (i := 0) (As := [.int 1]) (rest := []) ⟨hx, hb, hml, hown, hts⟩ (ctX5_fail l D y ad x R qs nC nT hR 1) (cwV 1 hts gX5_takeTie_X5_fail rfl rfl rfl (by decide +kernel) ⟨Nat.le_of_ble_eq_true rfl, Nat.le_of_ble_eq_true rfl⟩) ((hR 3 (0)).mpr Nat.zero_lt_one) (fun _ _ _ => ⟨_, rfl⟩) rfl hE hK hP hD hS hA rfl hl.1 rfl (Nat.le_of_ble_eq_true rfl) dX5_takeTie_22 ⟨Nat.zero_le _, Nat.zero_le _⟩ (fun rf xf H locs hf9 hP hD hS => ?_)
      exact c_reti hx hb hr hlocks hAe hK hP hD hS (by rw [hf9.1]; rfl) dX5_takeTie_25 (by rw [tkT, if_neg (by simp [b8, b17]), hf9.1, hf9.2])
set_option maxHeartbeats 4000000 in
set_option maxRecDepth 100000 in
/-- LawReader.takeKind -/
theorem ctX5_takeKind (l : Launch) (D : va_G) (y : Nat → ClassId) (ad : Nat → Nat → Nat) (x : cS) (R : List (Nat × Nat)) (qs : Nat → Nat × Nat) (nC nT : Nat) (hR : cHas R nC nT) (u : Nat) (h : cRU u x) : cMi l yX5_takeKind wsX5_takeKind ({ frames := 2, cells := 0, slots := 0, locals := 44 }) D y ad x R qs [.ref (ad 3 0)] (fun r x' => (r, x') = tkK u x) := by
  refine cMi_of (cc := cX5_takeKind) (maxL := 3) (ret := (some .int)) (by decide) rfl (Nat.le_of_ble_eq_true rfl) ?_
  intro p e s m below meth c A ls hat hAe hl
  obtain ⟨hx, hb, hr, hml, hts, hown, hlocks, hK, hP, hD, hA, hE⟩ := hat
  have hown : s.vm.findClass RX5 = some m.cls := hown
  have hin5 : ∀ w ∈ wsX50, w ∈ wsX5_takeKind := fun _ h9 => List.mem_cons_of_mem _ (List.mem_append_left _ (List.mem_append_right _ h9))
  have hin8 : ∀ w ∈ wsX80, w ∈ wsX5_takeKind := fun _ h9 => List.mem_cons_of_mem _ (List.mem_append_right _ h9)
  have hl : lv_has ls 3 [(0, .ref (ad 3 0))] := hl
  have hS : va_S A s.heap s.heap [] := va_S.rf
  refine lv_aload_n hx hb dX5_takeKind_0 rfl (lv_at hl 0 rfl) ?_
  refine cg_X5_number (i := 0) hx hb hts hin5 hown hK hP ((hR 3 (0)).mpr Nat.zero_lt_one) (by decide +kernel) dX5_takeKind_1 ?_
  refine lv_topi (fun n9 en9 => ?_)
  refine lv_istore_n (lv' := [(1, .int n9), (0, .ref (ad 3 0))]) hx hb dX5_takeKind_4 rfl hl (by decide) rfl (fun ls hl => ?_)
  have en : n9 = x.1 3 0 9 := en9
  refine lv_iconst (v := 1) hx hb dX5_takeKind_5 (by decide) ?_
  refine lv_istore_n (lv' := [(2, .int 1), (1, .int n9), (0, .ref (ad 3 0))]) hx hb dX5_takeKind_6 rfl hl (by decide) rfl (fun ls hl => ?_)
  have j_72 : ∀ (xz : cS) (z2 : Int32), ((if z2 = 0 then (-1 : Int32) else n9, xz) = tkK u x) → ∀ (H : Heap) (locs : List Loc), va_P D vwCl (cW ad y xz R) H → va_D A (cW ad y xz R) → va_S A s.heap H locs → ∀ (ls : Array Slot), lv_has ls 3 [(0, .ref (ad 3 0)), (1, .int n9), (2, .int z2)] → W p l e (headSpec wsX5_takeKind ({ frames := 2, cells := 0, slots := 0, locals := 44 })).room s m ([.ref (ad 3 0)] : List Value).toArray below meth c H locs 0 0 (MQ below (va_Qi (fun r x' => (r, x') = tkK u x) (cEnd D y ad R s.heap.size) A) ([.ref (ad 3 0)] : List Value).toArray s 0 0 A) (F0 m 72 ls []) := by
    intro xz z2 hz H locs hP hD hS ls hl
    refine lv_iload_n hx hb dX5_takeKind_72 rfl (lv_at hl 2 rfl) ?_
    refine lv_if_eq (tgt := 80) hx hb dX5_takeKind_73 (by decide) (fun c_73 => ?_) (fun c_73 => ?_)
    · refine lv_iconst (v := (-1)) hx hb dX5_takeKind_80 (by decide) ?_
      exact c_reti hx hb hr hlocks hAe hK hP hD hS rfl dX5_takeKind_81 (by rw [← hz, if_pos c_73])
    · refine lv_iload_n hx hb dX5_takeKind_76 rfl (lv_at hl 1 rfl) ?_
      refine lv_goto (tgt := 81) hx hb dX5_takeKind_77 (by decide) ?_
      exact c_reti hx hb hr hlocks hAe hK hP hD hS rfl dX5_takeKind_81 (by rw [← hz, if_neg c_73])
  refine lv_aload_n hx hb dX5_takeKind_7 rfl (lv_at hl 2 rfl) ?_
  refine cg_X5_token (i := 0) hx hb hts hin5 hown hK hP ((hR 3 (0)).mpr Nat.zero_lt_one) (by decide +kernel) dX5_takeKind_8 ?_
  refine lv_iconst (v := 2) hx hb dX5_takeKind_11 (by decide) ?_
  refine lv_icmp_eq (tgt := 24) hx hb dX5_takeKind_12 (by decide) (fun c_12 => ?_) (fun c_12 => ?_)
  · refine lv_iload_n hx hb dX5_takeKind_24 rfl (lv_at hl 1 rfl) ?_
    refine lv_if_lt (tgt := 34) hx hb dX5_takeKind_25 (by decide) (fun c_25 => ?_) (fun c_25 => ?_)
    · have g1 : isC 6 n9 = false := isC_neg (n := 6) (by omega) c_25
      refine lv_aload_n hx hb dX5_takeKind_34 rfl (lv_at hl 2 rfl) ?_
      refine lv_iconst (v := 2) hx hb dX5_takeKind_35 (by decide) ?_
      refine c_calli (ci := 5) (q := (RX5, TX5, 10)) (κ := 3) (i := 0) (As := [.int 2]) (rest := []) ⟨hx, hb, hml, hown, hts⟩ (ctX5_fail l D y ad x R qs nC nT hR 2) (cwV 1 hts gX5_takeKind_X5_fail rfl rfl rfl (by decide +kernel) ⟨Nat.le_of_ble_eq_true rfl, Nat.le_of_ble_eq_true rfl⟩) ((hR 3 (0)).mpr Nat.zero_lt_one) (fun _ _ _ => ⟨_, rfl⟩) rfl hE hK hP hD hS hA rfl hl.1 rfl (Nat.le_of_ble_eq_true rfl) dX5_takeKind_36 ⟨Nat.zero_le _, Nat.zero_le _⟩ (fun rf xf H locs hf9 hP hD hS => ?_)
      refine lv_istore_n (lv' := [(2, .int rf), (1, .int n9), (0, .ref (ad 3 0))]) hx hb dX5_takeKind_39 rfl hl (by decide) rfl (fun ls hl => ?_)
      refine lv_goto (tgt := 72) hx hb dX5_takeKind_40 (by decide) ?_
      exact j_72 _ _ (by rw [hf9.2, hf9.1, if_pos rfl, tkK, if_pos c_12, if_neg (by rw [← en, g1]; decide)]) _ _ hP hD hS _ (lv_sub hl [2, 1, 0] rfl)
    · refine lv_iload_n hx hb dX5_takeKind_28 rfl (lv_at hl 1 rfl) ?_
      refine lv_bipush (v := 6) hx hb dX5_takeKind_29 (by decide) ?_
      refine lv_icmp_lt (tgt := 43) hx hb dX5_takeKind_31 (by decide) (fun c_31 => ?_) (fun c_31 => ?_)
      · obtain ⟨g1, g2, g3⟩ := isC_lt (n := 6) (by omega) c_25 (Int32.not_le.mpr c_31)
        refine lv_aload_n hx hb dX5_takeKind_43 rfl (lv_at hl 2 rfl) ?_
        refine cg_X5_toldSuits (i := 0) hx hb hts hin5 hown hK hP ((hR 3 (0)).mpr Nat.zero_lt_one) (by decide +kernel) dX5_takeKind_44 ?_
        refine lv_iload_n hx hb dX5_takeKind_47 rfl (lv_at hl 1 rfl) ?_
        refine cl_bool 5 (0) 6 hx hb hK hP ((hR 5 (0)).mpr Nat.zero_lt_one) (fun _ _ _ => rfl) (sn_in g3 g2 (Nat.le_refl _) (by omega)) dX5_takeKind_48 ?_
        refine lv_if_eq (tgt := 61) hx hb dX5_takeKind_49 (by decide) (fun c_49 => ?_) (fun c_49 => ?_)
        · rw [show n9.toNatClampNeg = sI n9 from rfl] at c_49
          refine lv_aload_n hx hb dX5_takeKind_61 rfl (lv_at hl 2 rfl) ?_
          refine cg_X5_toldSuits (i := 0) hx hb hts hin5 hown hK hP ((hR 3 (0)).mpr Nat.zero_lt_one) (by decide +kernel) dX5_takeKind_62 ?_
          refine lv_iload_n hx hb dX5_takeKind_65 rfl (lv_at hl 1 rfl) ?_
          refine lv_iconst (v := 1) hx hb dX5_takeKind_66 (by decide) ?_
          refine cs_bool 5 (0) 6 hx hb hK hP hD hS ((hR 5 (0)).mpr Nat.zero_lt_one) (fun _ _ _ => rfl) (sn_in g3 g2 (Nat.le_refl _) (by omega)) dX5_takeKind_67 (fun H locs hP hD hS => ?_)
          rw [nar1] at hP hD
          have hP : va_P D vwCl (cW ad y (cI x 5 0 (sI n9) 1) R) H := hP
          have hD : va_D A (cW ad y (cI x 5 0 (sI n9) 1) R) := hD
          refine lv_aload_n hx hb dX5_takeKind_68 rfl (lv_at hl 2 rfl) ?_
          refine c_callv (ci := 5) (q := (RX5, TX5, 10)) (κ := 3) (i := 0) (As := []) (rest := []) ⟨hx, hb, hml, hown, hts⟩ (ctX5_advance l D y ad (cI x 5 0 (sI n9) 1) R qs nC nT hR u (sI (x.1 3 0 8)) h.1 h.2.1 h.2.2.2.1 h.2.2.2.2.2) (cwV 0 hts gX5_takeKind_X5_advance rfl rfl rfl (by decide +kernel) ⟨Nat.le_of_ble_eq_true rfl, Nat.le_of_ble_eq_true rfl⟩) ((hR 3 (0)).mpr Nat.zero_lt_one) (fun _ _ _ => ⟨_, rfl⟩) rfl hE hK hP hD hS hA rfl hl.1 rfl (Nat.le_of_ble_eq_true rfl) dX5_takeKind_69 ⟨Nat.zero_le _, Nat.zero_le _⟩ (fun xa H locs ha9 hP hD hS => ?_)
          exact j_72 _ _ (by rw [ha9, if_neg (show ¬ (1 : Int32) = 0 by decide), tkK, if_pos c_12, if_pos (by rw [← en]; exact g1), if_pos (by rw [← en]; exact c_49), ← en]) _ _ hP hD hS _ (lv_sub hl [2, 1, 0] rfl)
        · rw [show n9.toNatClampNeg = sI n9 from rfl] at c_49
          refine lv_aload_n hx hb dX5_takeKind_52 rfl (lv_at hl 2 rfl) ?_
          refine lv_iconst (v := 3) hx hb dX5_takeKind_53 (by decide) ?_
          refine c_calli (ci := 5) (q := (RX5, TX5, 10)) (κ := 3) (i := 0) (As := [.int 3]) (rest := []) ⟨hx, hb, hml, hown, hts⟩ (ctX5_fail l D y ad x R qs nC nT hR 3) (cwV 1 hts gX5_takeKind_X5_fail rfl rfl rfl (by decide +kernel) ⟨Nat.le_of_ble_eq_true rfl, Nat.le_of_ble_eq_true rfl⟩) ((hR 3 (0)).mpr Nat.zero_lt_one) (fun _ _ _ => ⟨_, rfl⟩) rfl hE hK hP hD hS hA rfl hl.1 rfl (Nat.le_of_ble_eq_true rfl) dX5_takeKind_54 ⟨Nat.zero_le _, Nat.zero_le _⟩ (fun rf xf H locs hf9 hP hD hS => ?_)
          refine lv_istore_n (lv' := [(2, .int rf), (1, .int n9), (0, .ref (ad 3 0))]) hx hb dX5_takeKind_57 rfl hl (by decide) rfl (fun ls hl => ?_)
          refine lv_goto (tgt := 72) hx hb dX5_takeKind_58 (by decide) ?_
          exact j_72 _ _ (by rw [hf9.2, hf9.1, if_pos rfl, tkK, if_pos c_12, if_pos (by rw [← en]; exact g1), if_neg (by rw [← en]; exact c_49)]) _ _ hP hD hS _ (lv_sub hl [2, 1, 0] rfl)
      · have g1 : isC 6 n9 = false := isC_ge (n := 6) (by omega) (Int32.not_lt.mp c_31)
        refine lv_aload_n hx hb dX5_takeKind_34 rfl (lv_at hl 2 rfl) ?_
        refine lv_iconst (v := 2) hx hb dX5_takeKind_35 (by decide) ?_
        refine c_calli (ci := 5) (q := (RX5, TX5, 10)) (κ := 3) (i := 0) (As := [.int 2]) (rest := []) ⟨hx, hb, hml, hown, hts⟩ (ctX5_fail l D y ad x R qs nC nT hR 2) (cwV 1 hts gX5_takeKind_X5_fail rfl rfl rfl (by decide +kernel) ⟨Nat.le_of_ble_eq_true rfl, Nat.le_of_ble_eq_true rfl⟩) ((hR 3 (0)).mpr Nat.zero_lt_one) (fun _ _ _ => ⟨_, rfl⟩) rfl hE hK hP hD hS hA rfl hl.1 rfl (Nat.le_of_ble_eq_true rfl) dX5_takeKind_36 ⟨Nat.zero_le _, Nat.zero_le _⟩ (fun rf xf H locs hf9 hP hD hS => ?_)
        refine lv_istore_n (lv' := [(2, .int rf), (1, .int n9), (0, .ref (ad 3 0))]) hx hb dX5_takeKind_39 rfl hl (by decide) rfl (fun ls hl => ?_)
        refine lv_goto (tgt := 72) hx hb dX5_takeKind_40 (by decide) ?_
        exact j_72 _ _ (by rw [hf9.2, hf9.1, if_pos rfl, tkK, if_pos c_12, if_neg (by rw [← en, g1]; decide)]) _ _ hP hD hS _ (lv_sub hl [2, 1, 0] rfl)
  · refine lv_aload_n hx hb dX5_takeKind_15 rfl (lv_at hl 2 rfl) ?_
    refine lv_iconst (v := 1) hx hb dX5_takeKind_16 (by decide) ?_
    refine c_calli (ci := 5) (q := (RX5, TX5, 10)) (κ := 3) (i := 0) (As := [.int 1]) (rest := []) ⟨hx, hb, hml, hown, hts⟩ (ctX5_fail l D y ad x R qs nC nT hR 1) (cwV 1 hts gX5_takeKind_X5_fail rfl rfl rfl (by decide +kernel) ⟨Nat.le_of_ble_eq_true rfl, Nat.le_of_ble_eq_true rfl⟩) ((hR 3 (0)).mpr Nat.zero_lt_one) (fun _ _ _ => ⟨_, rfl⟩) rfl hE hK hP hD hS hA rfl hl.1 rfl (Nat.le_of_ble_eq_true rfl) dX5_takeKind_17 ⟨Nat.zero_le _, Nat.zero_le _⟩ (fun rf xf H locs hf9 hP hD hS => ?_)
    refine lv_istore_n (lv' := [(2, .int rf), (1, .int n9), (0, .ref (ad 3 0))]) hx hb dX5_takeKind_20 rfl hl (by decide) rfl (fun ls hl => ?_)
    refine lv_goto (tgt := 72) hx hb dX5_takeKind_21 (by decide) ?_
    exact j_72 _ _ (by rw [hf9.2, hf9.1, if_pos rfl, tkK, if_neg c_12]) _ _ hP hD hS _ (lv_sub hl [2, 1, 0] rfl)
