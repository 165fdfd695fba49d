/-! the landed program: what the reader keeps; laws -/
def cKR (w x : cS) : Prop := (∀ a b c, a ≠ 3 → a ≠ 4 → a ≠ 5 → (a = 26 → b ≠ 0) → w.1 a b c = x.1 a b c) ∧ w.2 = x.2
theorem cKR.rf (x : cS) : cKR x x := ⟨fun _ _ _ _ _ _ _ => rfl, rfl⟩
theorem cKR.tr {u v w : cS} (h : cKR u v) (g : cKR v w) : cKR u w := ⟨fun a b c h1 h2 h3 h4 => (h.1 a b c h1 h2 h3 h4).trans (g.1 a b c h1 h2 h3 h4), h.2.trans g.2⟩
theorem kr_i3 (x : cS) (i s : Nat) (v : Int32) : cKR (cI x 3 i s v) x := ⟨fun a b c h1 _ _ _ => by rw [cI_r, if_neg (fun q => h1 q.1)], rfl⟩
theorem kr_i4 (x : cS) (i s : Nat) (v : Int32) : cKR (cI x 4 i s v) x := ⟨fun a b c _ h1 _ _ => by rw [cI_r, if_neg (fun q => h1 q.1)], rfl⟩
theorem kr_i5 (x : cS) (i s : Nat) (v : Int32) : cKR (cI x 5 i s v) x := ⟨fun a b c _ _ h1 _ => by rw [cI_r, if_neg (fun q => h1 q.1)], rfl⟩
theorem kr_i26 (x : cS) (s : Nat) (v : Int32) : cKR (cI x 26 0 s v) x := ⟨fun a b c _ _ _ h1 => by rw [cI_r, if_neg (fun q => h1 q.1 q.2.1)], rfl⟩
theorem kr_f4 (x : cS) (i n : Nat) (v : Int32) : cKR (cF x 4 i v n) x := ⟨fun a b c _ h1 _ _ => by rw [cF_r, if_neg (fun q => h1 q.1)], rfl⟩
theorem kr_f5 (x : cS) (i n : Nat) (v : Int32) : cKR (cF x 5 i v n) x := ⟨fun a b c _ _ h1 _ => by rw [cF_r, if_neg (fun q => h1 q.1)], rfl⟩
theorem kr_f26 (x : cS) (n : Nat) (v : Int32) : cKR (cF x 26 0 v n) x := ⟨fun a b c _ _ _ h1 => by rw [cF_r, if_neg (fun q => h1 q.1 q.2.1)], rfl⟩
theorem kr_adv (x : cS) (u : Nat) : cKR (cAdv x u) x := ⟨fun a b c h1 _ _ _ => (cAdvS_k x u _).1 a b c h1, (cAdvS_k x u _).2.1⟩
theorem kr_fail (x : cS) (k : Int32) : cKR (cFail x k) x := (kr_i3 _ _ _ _).tr (kr_i3 _ _ _ _)
theorem kr_fgK (x : cS) : ∀ k, cKR (cFgK x 0 k) x
  | 0 => (kr_i26 _ _ _).tr ((kr_i26 _ _ _).tr ((kr_i26 _ _ _).tr ((kr_i26 _ _ _).tr (kr_f26 _ _ _))))
  | k + 1 => (kr_i26 _ _ _).tr ((kr_i26 _ _ _).tr ((kr_i26 _ _ _).tr ((kr_i26 _ _ _).tr (kr_fgK x k))))
theorem kr_forget (x : cS) : cKR (cForget x 0) x := (kr_i26 _ _ _).tr (kr_fgK x 6)
theorem kr_start (x : cS) : cKR (cStart x) x := (kr_i3 _ _ _ _).tr ((kr_i3 _ _ _ _).tr ((kr_i3 _ _ _ _).tr ((kr_f5 _ _ _ _).tr ((kr_f4 _ _ _ _).tr (kr_forget x)))))
theorem kr_tkW (u j : Nat) (x : cS) : cKR (tkW u j x).2 x := by
  unfold tkW
  split
  · exact kr_adv x u
  · exact kr_fail x 1
theorem kr_tkN (u w : Nat) (x : cS) : cKR (tkN u w x).2 x := by
  unfold tkN
  split
  · exact (kr_adv _ u).tr (kr_i26 _ _ _)
  · exact kr_fail x 1
theorem kr_tkS (u : Nat) (x : cS) : cKR (tkS u x).2 x := by
  unfold tkS
  split
  · exact kr_adv x u
  · exact kr_fail x 1
theorem kr_tkT (u : Nat) (x : cS) : cKR (tkT u x).2 x := by
  unfold tkT
  split
  · exact (kr_adv _ u).tr (kr_i26 _ _ _)
  · exact kr_fail x 1
theorem kr_tkF (u w : Nat) (x : cS) : cKR (tkF u w x).2 x := by
  unfold tkF
  split
  · exact (kr_adv _ u).tr (kr_i4 _ _ _ _)
  · exact kr_fail x 3
theorem kr_tkK (u : Nat) (x : cS) : cKR (tkK u x).2 x := by
  unfold tkK
  split
  · split
    · split
      · exact (kr_adv _ u).tr (kr_i5 _ _ _ _)
      · exact kr_fail x 3
    · exact kr_fail x 2
  · exact kr_fail x 1
theorem kr_bnd {X : Int32 × cS} {x : cS} {f : cS → Int32 × cS} (h : cKR X.2 x) (g : ∀ w, cKR (f w).2 w) : cKR (cbnd X f).2 x := by
  unfold cbnd
  split
  · exact h
  · exact (g _).tr h
theorem kr_one (x : cS) : cKR (one9 x).2 x := cKR.rf x
theorem kr_rdE (u q : Nat) (x : cS) : cKR (rdE u q x).2 x := kr_bnd (kr_tkW u 9 x) (fun w => kr_bnd (kr_tkN u (40 + q) w) kr_one)
theorem kr_rdD (u q : Nat) (x : cS) : cKR (rdD u q x).2 x := by
  unfold rdD
  split
  · exact (kr_bnd (kr_tkN u (20 + q) (cAdv x u)) (fun w => kr_bnd (kr_tkW u 7 w) (fun w => kr_bnd (kr_tkN u (30 + q) w) (kr_rdE u q)))).tr (kr_adv x u)
  · exact kr_rdE u q x
theorem kr_rdB (u q : Nat) (x : cS) : cKR (rdB u q x).2 x := kr_bnd (kr_tkW u 7 x) (fun w => kr_bnd (kr_tkN u (10 + q) w) (fun w => (kr_rdD u q (rdW q w)).tr (kr_i26 _ _ _)))
theorem kr_rdS (u : Nat) (x : cS) : cKR (rdS u x).2 x := by
  unfold rdS rdA
  split
  · exact kr_tkK u x
  · exact (kr_rdB u _ _).tr (kr_tkK u x)
theorem kr_rdN (u w : Nat) (x : cS) : cKR (rdN u w x).2 x := kr_bnd (kr_tkF u w x) (fun z => kr_bnd (kr_tkN u w z) kr_one)
theorem kr_rdL (u : Nat) (x : cS) : cKR (rdL u x).2 x := by
  unfold rdL
  split
  · exact kr_rdN u 0 x
  · split
    · exact kr_rdN u 1 x
    · split
      · exact kr_rdN u 2 x
      · split
        · exact kr_bnd (kr_tkF u 3 x) (fun w => kr_bnd (kr_tkT u w) kr_one)
        · exact kr_bnd (kr_tkW u 4 x) (fun w => kr_bnd (kr_rdS u w) kr_one)
theorem kr_rdX (u : Nat) : ∀ f x, cKR (rdX u f x).2 x
  | 0, x => cKR.rf x
  | f + 1, x => by
    rw [rdX]
    split
    · exact cKR.rf x
    · exact kr_bnd (kr_rdL u x) (fun w => kr_bnd (kr_tkS u w) (kr_rdX u f))
theorem kr_rdT (u : Nat) (x : cS) : cKR (rdT u x).2 x := (kr_rdX u 1001 _).tr ((kr_adv _ u).tr (kr_start x))
set_option maxHeartbeats 4000000 in
set_option maxRecDepth 100000 in
theorem ctX9_laws (l : Launch) (D : va_G) (y : Nat → ClassId) (ad : Nat → Nat → Nat) (x : cS) (R : List (Nat × Nat)) (qs : Nat → Nat × Nat) (nC nT : Nat) (hR : cHas R nC nT) (day : Int32) (u : Nat) (hu : x.1 1 0 1 = nI u) (hu1 : u ≤ 1000) (hsz : x.1 6 0 2 = nI nT) (hT15 : nT ≤ 15) (hrf : cRef nC nT x) : aMi l yX9_laws wsX9_laws ({ frames := 10, cells := 2, slots := 53, locals := 240 }) 2 53 D y ad x R qs [.ref (ad 0 0), .int day] (fun r w => (¬ (¬ day < x.1 0 0 8 ∧ day ≤ 20000) → r = -2 ∧ w = (cI x 1 0 1 0, ad, R)) ∧ ((¬ day < x.1 0 0 8 ∧ day ≤ 20000) → ((rdT u x).1 = 0 → r = -1 ∧ w = ((cI (rdT u x).2 1 0 1 0), ad, R)) ∧ (¬ (rdT u x).1 = 0 → (nT = 15 → r = -3 ∧ w = ((cI (rdT u x).2 1 0 1 0), ad, R)) ∧ (nT < 15 → r = nI nT ∧ ∃ q a, w = (cEn (cI (rdT u x).2 1 0 1 0) nT day, up2 (up2 ad 25 (nT + 2) q) 26 (nT + 2) a, R ++ [(25, nT + 2), (26, nT + 2)]))))) := by
  refine aMi_of (cc := cX9_laws) (maxL := 3) (ret := (some .int)) (by decide) rfl (Nat.le_of_ble_eq_true rfl) ?_
  intro p e s m below meth c A ls hat hN hAe hl
  obtain ⟨hx, hb, hr, hml, hts, hown, hlocks, hK, hP, hD, hA, hE⟩ := hat
  have hown : s.vm.findClass RX9 = some m.cls := hown
  have hin9 : ∀ w ∈ wsX90, w ∈ wsX9_laws := fun _ h9 => List.mem_cons_of_mem _ (List.mem_append_left _ (List.mem_append_left _ (List.mem_append_left _ (List.mem_append_left _ (List.mem_append_right _ h9)))))
  have hin8 : ∀ w ∈ wsX80, w ∈ wsX9_laws := fun _ h9 => List.mem_cons_of_mem _ (List.mem_append_left _ (List.mem_append_left _ (List.mem_append_left _ (List.mem_append_right _ h9))))
  have hin5 : ∀ w ∈ wsX50, w ∈ wsX9_laws := fun _ h9 => List.mem_cons_of_mem _ (List.mem_append_left _ (List.mem_append_left _ (List.mem_append_right _ h9)))
  have hin6 : ∀ w ∈ wsX60, w ∈ wsX9_laws := fun _ h9 => List.mem_cons_of_mem _ (List.mem_append_left _ (List.mem_append_right _ h9))
  have hin4 : ∀ w ∈ wsX40, w ∈ wsX9_laws := fun _ h9 => List.mem_cons_of_mem _ (List.mem_append_right _ h9)
  have hl : lv_has ls 3 [(0, .ref (ad 0 0)), (1, .int day)] := hl
  have hS : va_S A s.heap s.heap [] := va_S.rf
  refine lv_iload_n hx hb dX9_laws_0 rfl (lv_at hl 1 rfl) ?_
  refine lv_aload_n hx hb dX9_laws_1 rfl (lv_at hl 0 rfl) ?_
  refine cg_X9_clock (i := 0) hx hb hts hin9 hown hK hP ((hR 0 (0)).mpr Nat.zero_lt_one) (by decide +kernel) dX9_laws_2 ?_
  refine lv_icmp_lt (tgt := 15) hx hb dX9_laws_5 (by decide) (fun c_5 => ?_) (fun c_5 => ?_)
  · refine lv_aload_n hx hb dX9_laws_15 rfl (lv_at hl 0 rfl) ?_
    refine cg_X9_tape (i := 0) hx hb hts hin9 hown hK hP ((hR 0 (0)).mpr Nat.zero_lt_one) (by decide +kernel) dX9_laws_16 ?_
    refine lv_iconst (v := 0) hx hb dX9_laws_19 (by decide) ?_
    refine cp_X8_used (i := 0) hx hb hts hin8 hown hK hP hD hS ((hR 1 (0)).mpr Nat.zero_lt_one) (by decide +kernel) dX9_laws_20 (fun H locs hP hD hS => ?_)
    refine lv_bipush (v := (-2)) hx hb dX9_laws_23 (by decide) ?_
    exact a_reti hx hb hr hlocks hAe hK hP hD hS (Nat.zero_le _) (Nat.zero_le _) rfl dX9_laws_25 ⟨fun _ => ⟨rfl, rfl⟩, fun q9 => absurd c_5 q9.1⟩
  · refine lv_iload_n hx hb dX9_laws_8 rfl (lv_at hl 1 rfl) ?_
    refine lv_sipush (v := 20000) hx hb dX9_laws_9 (by decide) ?_
    refine lv_icmp_le (tgt := 26) hx hb dX9_laws_12 (by decide) (fun c_12 => ?_) (fun c_12 => ?_)
    · refine lv_aload_n hx hb dX9_laws_26 rfl (lv_at hl 0 rfl) ?_
      refine cg_X9_reader (i := 0) hx hb hts hin9 hown hK hP ((hR 0 (0)).mpr Nat.zero_lt_one) (by decide +kernel) dX9_laws_27 ?_
      refine c_calli (ci := 5) (q := (RX5, TX5, 10)) (κ := 3) (i := 0) (As := []) (rest := []) ⟨hx, hb, hml, hown, hts⟩ (ctX5_readText l D y ad x R qs nC nT hR u hu hu1) (cwV 0 hts gX9_laws_X5_readText rfl rfl rfl (by decide +kernel) ⟨Nat.le_of_ble_eq_true rfl, Nat.le_of_ble_eq_true rfl⟩) ((hR 3 (0)).mpr Nat.zero_lt_one) (fun _ _ _ => ⟨_, rfl⟩) rfl hE hK hP hD hS hA rfl hl.1 rfl (Nat.le_of_ble_eq_true rfl) dX9_laws_30 ⟨Nat.le_of_ble_eq_true rfl, Nat.le_of_ble_eq_true rfl⟩ (fun r30 x30 H locs h30 hP hD hS => ?_)
      have hr1 : r30 = (rdT u x).1 := congrArg Prod.fst h30
      have hx30 : x30 = (rdT u x).2 := congrArg Prod.snd h30
      rw [hx30] at hP hD
      refine lv_istore_n (lv' := [(2, .int r30), (0, .ref (ad 0 0)), (1, .int day)]) hx hb dX9_laws_33 rfl hl (by decide) rfl (fun ls hl => ?_)
      refine lv_aload_n hx hb dX9_laws_34 rfl (lv_at hl 1 rfl) ?_
      refine cg_X9_tape (i := 0) hx hb hts hin9 hown hK hP ((hR 0 (0)).mpr Nat.zero_lt_one) (by decide +kernel) dX9_laws_35 ?_
      refine lv_iconst (v := 0) hx hb dX9_laws_38 (by decide) ?_
      refine cp_X8_used (i := 0) hx hb hts hin8 hown hK hP hD hS ((hR 1 (0)).mpr Nat.zero_lt_one) (by decide +kernel) dX9_laws_39 (fun H locs hP hD hS => ?_)
      refine lv_iload_n hx hb dX9_laws_42 rfl (lv_at hl 0 rfl) ?_
      refine lv_if_ne (tgt := 48) hx hb dX9_laws_43 (by decide) (fun c_43 => ?_) (fun c_43 => ?_)
      · refine lv_aload_n hx hb dX9_laws_48 rfl (lv_at hl 1 rfl) ?_
        refine cg_X9_book (i := 0) hx hb hts hin9 hown hK hP ((hR 0 (0)).mpr Nat.zero_lt_one) (by decide +kernel) dX9_laws_49 ?_
        refine lv_aload_n hx hb dX9_laws_52 rfl (lv_at hl 1 rfl) ?_
        refine cg_X9_reader (i := 0) hx hb hts hin9 hown hK hP ((hR 0 (0)).mpr Nat.zero_lt_one) (by decide +kernel) dX9_laws_53 ?_
        refine cg_X5_draft (i := 0) hx hb hts hin5 hown hK hP ((hR 3 (0)).mpr Nat.zero_lt_one) (by decide +kernel) dX9_laws_56 ?_
        refine lv_iload_n hx hb dX9_laws_59 rfl (lv_at hl 2 rfl) ?_
        have hkr := kr_rdT u x
        have hsz2 : (cI (rdT u x).2 1 0 1 0).1 6 0 2 = nI nT := (hkr.1 6 0 2 (by decide) (by decide) (by decide) (by decide)).trans hsz
        have hrf2 : cRef nC nT (cI (rdT u x).2 1 0 1 0) := fun a b j c9 h9 => hrf a b j c9 (by rw [← hkr.2]; exact h9)
        refine a_calli (ci := 4) (q := (RX4, TX4, 3)) (κ := 6) (i := 0) (As := [.ref (ad 25 0), .int day]) (rest := []) ⟨hx, hb, hml, hown, hts⟩ (ctX4_enact l D y ad (cI (rdT u x).2 1 0 1 0) R qs nC nT hR day hsz2 hT15 hrf2) (cwV 2 hts gX9_laws_X4_enact rfl rfl rfl (by decide +kernel) ⟨Nat.le_of_ble_eq_true rfl, Nat.le_of_ble_eq_true rfl⟩) ((hR 6 0).mpr Nat.zero_lt_one) (fun _ _ _ => ⟨_, rfl⟩) rfl hE hN hK hP hD hS hA rfl hl.1 rfl (Nat.le_of_ble_eq_true rfl) dX9_laws_60 ⟨Nat.le_of_ble_eq_true rfl, Nat.le_of_ble_eq_true rfl⟩ (fun r x9 ad9 R9 H locs hq hP hD hS => ?_)
        exact a_reti hx hb hr hlocks hAe hK hP hD hS (Nat.le_of_ble_eq_true rfl) (Nat.le_of_ble_eq_true rfl) rfl dX9_laws_63 ⟨fun q9 => absurd ⟨c_5, c_12⟩ q9, fun _ => ⟨fun q9 => absurd q9 (fun q8 => c_43 (hr1.trans q8)), fun _ => hq⟩⟩
      · refine lv_iconst (v := (-1)) hx hb dX9_laws_46 (by decide) ?_
        exact a_reti hx hb hr hlocks hAe hK hP hD hS (Nat.zero_le _) (Nat.zero_le _) rfl dX9_laws_47 ⟨fun q9 => absurd ⟨c_5, c_12⟩ q9, fun _ => ⟨fun _ => ⟨rfl, rfl⟩, fun q9 => absurd (hr1 ▸ c_43) q9⟩⟩
    · refine lv_aload_n hx hb dX9_laws_15 rfl (lv_at hl 0 rfl) ?_
      refine cg_X9_tape (i := 0) hx hb hts hin9 hown hK hP ((hR 0 (0)).mpr Nat.zero_lt_one) (by decide +kernel) dX9_laws_16 ?_
      refine lv_iconst (v := 0) hx hb dX9_laws_19 (by decide) ?_
      refine cp_X8_used (i := 0) hx hb hts hin8 hown hK hP hD hS ((hR 1 (0)).mpr Nat.zero_lt_one) (by decide +kernel) dX9_laws_20 (fun H locs hP hD hS => ?_)
      refine lv_bipush (v := (-2)) hx hb dX9_laws_23 (by decide) ?_
      exact a_reti hx hb hr hlocks hAe hK hP hD hS (Nat.zero_le _) (Nat.zero_le _) rfl dX9_laws_25 ⟨fun _ => ⟨rfl, rfl⟩, fun q9 => absurd q9.2 c_12⟩
