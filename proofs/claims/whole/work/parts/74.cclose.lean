/-! the landed program: suit, close -/
def okSuit9 (x : cS) (nC : Nat) (ns : Nat → Nat) (k q ac bc s9 : Int32) : Prop := isK k = true ∧ isC 6 q = true ∧ ¬ s9 < 0 ∧ s9 ≤ 1000000 ∧ ¬ ac = bc ∧ cPar x (sI k) (ns (sI k)) nC ac = true ∧ cPar x (sI k) (ns (sI k)) nC bc = true
def cSuWa (x : cS) (nT : Nat) (q s9 : Int32) : Int32 := cWat x (cFo x (x.1 0 0 8) nT) (sI q) s9
def csSuit (x : cS) (nT : Nat) (k q ac bc s9 : Int32) : Int32 × cS := if x.1 18 (sI k) 2 = 0 ∨ ¬ x.1 18 (sI k) 2 ≤ x.1 18 (sI k) 3 ∨ ¬ x.1 20 (sI k) 4 = 0 then (-4, x) else (cSuWa x nT q s9, cPrep (cBegin x (sI k) q ac bc s9) (sI k) (x.1 18 (sI k) 2) (cSuWa x nT q s9))
set_option maxHeartbeats 4000000 in
set_option maxRecDepth 100000 in
/-- suit -/
theorem ctX9_suit (l : Launch) (D : va_G) (y : Nat → ClassId) (ad : Nat → Nat → Nat) (x : cS) (R : List (Nat × Nat)) (qs : Nat → Nat × Nat) (nC nT : Nat) (hR : cHas R nC nT) (k q ac bc s9 : Int32) (ns : Nat → Nat) (hn : x.1 0 0 7 = nI nC) (hn1 : nC ≤ 150) (hro : ∀ c, c < nC → x.2.2 8 0 c = some c) (hsz : x.1 6 0 2 = nI nT) (hT15 : nT ≤ 15) (hTx : ∀ j, j < nT → x.2.2 7 0 j = some (j + 2)) (hns : ∀ k, k < 5 → x.1 18 k 3 = nI (ns k) ∧ ns k ≤ 25) (hz25 : ∀ k, k < 5 → ¬ 25 < x.1 18 k 2) : cMi l yX9_suit wsX9_suit ({ frames := 2, cells := 0, slots := 0, locals := 50 }) D y ad x R qs [.ref (ad 0 0), .int k, .int q, .int ac, .int bc, .int s9] (fun r x' => (okSuit9 x nC ns k q ac bc s9 → (r, x') = csSuit x nT k q ac bc s9) ∧ (¬ okSuit9 x nC ns k q ac bc s9 → r = -2 ∧ x' = x)) := by
  refine cMi_of (cc := cX9_suit) (maxL := 8) (ret := (some .int)) (by decide) rfl (Nat.le_of_ble_eq_true rfl) ?_
  intro p e s m below meth c A ls hat hAe hl
  obtain ⟨hx, hb, hr, hml, hts, hown, hlocks, hK, hP, hD, hA, hE⟩ := hat
  have hown : s.vm.findClass RX9 = some m.cls := hown
  have hin2 : ∀ w ∈ wsX20, w ∈ wsX9_suit := fun _ h9 => List.mem_cons_of_mem _ (List.mem_append_left _ (List.mem_append_left _ (List.mem_append_left _ (List.mem_append_left _ (List.mem_append_right _ h9)))))
  have hin7 : ∀ w ∈ wsX70, w ∈ wsX9_suit := fun _ h9 => List.mem_cons_of_mem _ (List.mem_append_left _ (List.mem_append_left _ (List.mem_append_left _ (List.mem_append_right _ h9))))
  have hin9 : ∀ w ∈ wsX90, w ∈ wsX9_suit := fun _ h9 => List.mem_cons_of_mem _ (List.mem_append_left _ (List.mem_append_left _ (List.mem_append_right _ h9)))
  have hin4 : ∀ w ∈ wsX40, w ∈ wsX9_suit := fun _ h9 => List.mem_cons_of_mem _ (List.mem_append_left _ (List.mem_append_right _ h9))
  have hin6 : ∀ w ∈ wsX60, w ∈ wsX9_suit := fun _ h9 => List.mem_cons_of_mem _ (List.mem_append_right _ h9)
  have hl : lv_has ls 8 [(0, .ref (ad 0 0)), (1, .int k), (2, .int q), (3, .int ac), (4, .int bc), (5, .int s9)] := hl
  have hS : va_S A s.heap s.heap [] := va_S.rf
  refine lv_aload_n hx hb dX9_suit_0 rfl (lv_at hl 0 rfl) ?_
  refine lv_iload_n hx hb dX9_suit_1 rfl (lv_at hl 1 rfl) ?_
  refine c_callep (ci := 9) (q := (RX9, TX9, 11)) (κ := 0) (i := 0) (As := [.int k]) (rest := []) ⟨hx, hb, hml, hown, hts⟩ (ctX9_courtAt l D y ad x R qs nC nT hR (k)) (cwV 1 hts gX9_suit_X9_courtAt rfl rfl rfl (by decide +kernel) ⟨Nat.le_of_ble_eq_true rfl, Nat.le_of_ble_eq_true rfl⟩) ((hR 0 (0)).mpr Nat.zero_lt_one) (fun _ _ _ => ⟨_, rfl⟩) rfl hE hK hP hD hS hA rfl hl.1 rfl (Nat.le_of_ble_eq_true rfl) dX9_suit_2 ⟨Nat.zero_le _, Nat.zero_le _⟩ (fun H locs hP hD hS => ?_)
  refine lv_re (fun e_2 => ?_) (fun k9 e_2 => ?_)
  · have bk : isK (k) = false := crtF_n e_2
    refine lv_astoreN (lv' := [(6, .null), (0, .ref (ad 0 0)), (1, .int k), (2, .int q), (3, .int ac), (4, .int bc), (5, .int s9)]) hx hb dX9_suit_5 hl (by decide) rfl (fun ls hl => ?_)
    refine lv_aloadN hx hb dX9_suit_7 (lv_at hl 0 rfl) ?_
    refine lv_ifnullN (tgt := 34) hx hb dX9_suit_9 (by decide) ?_
    refine lv_bipush (v := (-2)) hx hb dX9_suit_34 (by decide) ?_
    exact c_reti hx hb hr hlocks hAe hK hP hD hS rfl dX9_suit_36 (⟨fun q9 => absurd q9 (by simp [okSuit9, bk]), fun _ => ⟨rfl, rfl⟩⟩)
  · obtain ⟨bk, hbk, ebk⟩ := crtF_s e_2
    rw [ebk]
    refine lv_astore (lv' := [(6, .ref (ad 18 (sI k))), (0, .ref (ad 0 0)), (1, .int k), (2, .int q), (3, .int ac), (4, .int bc), (5, .int s9)]) hx hb dX9_suit_5 hl (by decide) rfl (fun ls hl => ?_)
    refine lv_aload hx hb dX9_suit_7 (lv_at hl 0 rfl) ?_
    refine lv_ifnull hx hb dX9_suit_9 ?_
    refine lv_iload_n hx hb dX9_suit_12 rfl (lv_at hl 3 rfl) ?_
    refine lv_if_lt (tgt := 34) hx hb dX9_suit_13 (by decide) (fun c_13 => ?_) (fun c_13 => ?_)
    · have g1 : isC 6 q = false := isC_neg (n := 6) (by omega) c_13
      refine lv_bipush (v := (-2)) hx hb dX9_suit_34 (by decide) ?_
      exact c_reti hx hb hr hlocks hAe hK hP hD hS rfl dX9_suit_36 (⟨fun q9 => absurd q9 (by simp [okSuit9, g1]), fun _ => ⟨rfl, rfl⟩⟩)
    · refine lv_iload_n hx hb dX9_suit_16 rfl (lv_at hl 3 rfl) ?_
      refine lv_bipush (v := 6) hx hb dX9_suit_17 (by decide) ?_
      refine lv_icmp_ge (tgt := 34) hx hb dX9_suit_19 (by decide) (fun c_19 => ?_) (fun c_19 => ?_)
      · have g1 : isC 6 q = false := isC_ge (n := 6) (by omega) c_19
        refine lv_bipush (v := (-2)) hx hb dX9_suit_34 (by decide) ?_
        exact c_reti hx hb hr hlocks hAe hK hP hD hS rfl dX9_suit_36 (⟨fun q9 => absurd q9 (by simp [okSuit9, g1]), fun _ => ⟨rfl, rfl⟩⟩)
      · obtain ⟨g1, g2, g3⟩ := isC_lt (n := 6) (by omega) c_13 c_19
        refine lv_iload hx hb dX9_suit_22 (lv_at hl 6 rfl) ?_
        refine lv_if_lt (tgt := 34) hx hb dX9_suit_24 (by decide) (fun c_24 => ?_) (fun c_24 => ?_)
        · refine lv_bipush (v := (-2)) hx hb dX9_suit_34 (by decide) ?_
          exact c_reti hx hb hr hlocks hAe hK hP hD hS rfl dX9_suit_36 (⟨fun q9 => absurd q9 (by simp [okSuit9, e_2, c_24, Int32.not_le.mpr c_24]), fun _ => ⟨rfl, rfl⟩⟩)
        · refine lv_iload hx hb dX9_suit_27 (lv_at hl 6 rfl) ?_
          refine lv_ldc (v := 1000000) hx hb hown (hts (.constant RX9 216 (1000000)) (by decide +kernel)) dX9_suit_29 ?_
          refine lv_icmp_le (tgt := 37) hx hb dX9_suit_31 (by decide) (fun c_31 => ?_) (fun c_31 => ?_)
          · refine lv_iload_n hx hb dX9_suit_37 rfl (lv_at hl 4 rfl) ?_
            refine lv_iload hx hb dX9_suit_38 (lv_at hl 5 rfl) ?_
            refine lv_icmp_eq (tgt := 64) hx hb dX9_suit_40 (by decide) (fun c_40 => ?_) (fun c_40 => ?_)
            · refine lv_bipush (v := (-2)) hx hb dX9_suit_64 (by decide) ?_
              exact c_reti hx hb hr hlocks hAe hK hP hD hS rfl dX9_suit_66 (⟨fun q9 => absurd q9 (by simp [okSuit9, c_40]), fun _ => ⟨rfl, rfl⟩⟩)
            · refine lv_aload_n hx hb dX9_suit_43 rfl (lv_at hl 1 rfl) ?_
              refine lv_aload hx hb dX9_suit_44 (lv_at hl 0 rfl) ?_
              refine lv_iload_n hx hb dX9_suit_46 rfl (lv_at hl 4 rfl) ?_
              refine c_callip (ci := 9) (q := (RX9, TX9, 11)) (κ := 0) (i := 0) (As := [.ref (ad 18 (sI k)), .int ac]) (rest := []) ⟨hx, hb, hml, hown, hts⟩ (ctX9_canBeParty l D y ad x R qs nC nT hR ac (sI k) (ns (sI k)) hn hn1 hro hbk (hns _ hbk).1 (hns _ hbk).2) (cwV 2 hts gX9_suit_X9_canBeParty rfl rfl rfl (by decide +kernel) ⟨Nat.le_of_ble_eq_true rfl, Nat.le_of_ble_eq_true rfl⟩) ((hR 0 (0)).mpr Nat.zero_lt_one) (fun _ _ _ => ⟨_, rfl⟩) rfl hE hK hP hD hS hA rfl hl.1 rfl (Nat.le_of_ble_eq_true rfl) dX9_suit_47 ⟨Nat.zero_le _, Nat.zero_le _⟩ (fun H locs hP hD hS => ?_)
              refine lv_if_eq (tgt := 64) hx hb dX9_suit_50 (by decide) (fun c_50 => ?_) (fun c_50 => ?_)
              · have b50 : cPar x (sI k) (ns (sI k)) nC ac = false := (zI_eq _).mp c_50
                refine lv_bipush (v := (-2)) hx hb dX9_suit_64 (by decide) ?_
                exact c_reti hx hb hr hlocks hAe hK hP hD hS rfl dX9_suit_66 (⟨fun q9 => absurd q9 (by simp [okSuit9, b50]), fun _ => ⟨rfl, rfl⟩⟩)
              · have b50 : cPar x (sI k) (ns (sI k)) nC ac = true := (zI_ne _).mp c_50
                refine lv_aload_n hx hb dX9_suit_53 rfl (lv_at hl 1 rfl) ?_
                refine lv_aload hx hb dX9_suit_54 (lv_at hl 0 rfl) ?_
                refine lv_iload hx hb dX9_suit_56 (lv_at hl 5 rfl) ?_
                refine c_callip (ci := 9) (q := (RX9, TX9, 11)) (κ := 0) (i := 0) (As := [.ref (ad 18 (sI k)), .int bc]) (rest := []) ⟨hx, hb, hml, hown, hts⟩ (ctX9_canBeParty l D y ad x R qs nC nT hR bc (sI k) (ns (sI k)) hn hn1 hro hbk (hns _ hbk).1 (hns _ hbk).2) (cwV 2 hts gX9_suit_X9_canBeParty rfl rfl rfl (by decide +kernel) ⟨Nat.le_of_ble_eq_true rfl, Nat.le_of_ble_eq_true rfl⟩) ((hR 0 (0)).mpr Nat.zero_lt_one) (fun _ _ _ => ⟨_, rfl⟩) rfl hE hK hP hD hS hA rfl hl.1 rfl (Nat.le_of_ble_eq_true rfl) dX9_suit_58 ⟨Nat.zero_le _, Nat.zero_le _⟩ (fun H locs hP hD hS => ?_)
                refine lv_if_ne (tgt := 67) hx hb dX9_suit_61 (by decide) (fun c_61 => ?_) (fun c_61 => ?_)
                · have b61 : cPar x (sI k) (ns (sI k)) nC bc = true := (zI_ne _).mp c_61
                  refine lv_aload hx hb dX9_suit_67 (lv_at hl 0 rfl) ?_
                  refine cg_X2_size (i := sI k) hx hb hts hin2 hown hK hP ((hR 18 (sI k)).mpr hbk) (by decide +kernel) dX9_suit_69 ?_
                  refine lv_if_eq (tgt := 94) hx hb dX9_suit_72 (by decide) (fun c_72 => ?_) (fun c_72 => ?_)
                  · refine lv_bipush (v := (-4)) hx hb dX9_suit_94 (by decide) ?_
                    exact c_reti hx hb hr hlocks hAe hK hP hD hS rfl dX9_suit_96 (⟨fun _ => by rw [csSuit, if_pos (by simp [c_72])], fun q9 => absurd (show okSuit9 x nC ns k q ac bc s9 from ⟨bk, g1, c_24, c_31, c_40, b50, b61⟩) q9⟩)
                  · refine lv_aload hx hb dX9_suit_75 (lv_at hl 0 rfl) ?_
                    refine c_callip (ci := 2) (q := (RX2, TX2, 4)) (κ := 18) (i := sI k) (As := []) (rest := []) ⟨hx, hb, hml, hown, hts⟩ (ctX2_isFull l D y ad x R qs nC nT hR (sI k) hbk) (cwV 0 hts gX9_suit_X2_isFull rfl rfl rfl (by decide +kernel) ⟨Nat.le_of_ble_eq_true rfl, Nat.le_of_ble_eq_true rfl⟩) ((hR 18 (sI k)).mpr hbk) (fun _ _ _ => ⟨_, rfl⟩) rfl hE hK hP hD hS hA rfl hl.1 rfl (Nat.le_of_ble_eq_true rfl) dX9_suit_77 ⟨Nat.zero_le _, Nat.zero_le _⟩ (fun H locs hP hD hS => ?_)
                    refine lv_if_eq (tgt := 94) hx hb dX9_suit_80 (by decide) (fun c_80 => ?_) (fun c_80 => ?_)
                    · have b80 : decide (x.1 18 (sI k) 2 ≤ x.1 18 (sI k) 3) = false := (zI_eq _).mp c_80
                      have b80 := of_decide_eq_false b80
                      refine lv_bipush (v := (-4)) hx hb dX9_suit_94 (by decide) ?_
                      exact c_reti hx hb hr hlocks hAe hK hP hD hS rfl dX9_suit_96 (⟨fun _ => by rw [csSuit, if_pos (by simp [b80])], fun q9 => absurd (show okSuit9 x nC ns k q ac bc s9 from ⟨bk, g1, c_24, c_31, c_40, b50, b61⟩) q9⟩)
                    · have b80 : decide (x.1 18 (sI k) 2 ≤ x.1 18 (sI k) 3) = true := (zI_ne _).mp c_80
                      have b80 := of_decide_eq_true b80
                      refine lv_aload hx hb dX9_suit_83 (lv_at hl 0 rfl) ?_
                      refine cg_X2_suit (i := sI k) hx hb hts hin2 hown hK hP ((hR 18 (sI k)).mpr hbk) (by decide +kernel) dX9_suit_85 ?_
                      refine cg_X7_open (i := sI k) hx hb hts hin7 hown hK hP ((hR 20 (sI k)).mpr hbk) (by decide +kernel) dX9_suit_88 ?_
                      refine lv_if_eq (tgt := 97) hx hb dX9_suit_91 (by decide) (fun c_91 => ?_) (fun c_91 => ?_)
                      · refine lv_aload_n hx hb dX9_suit_97 rfl (lv_at hl 1 rfl) ?_
                        refine cg_X9_book (i := 0) hx hb hts hin9 hown hK hP ((hR 0 (0)).mpr Nat.zero_lt_one) (by decide +kernel) dX9_suit_98 ?_
                        refine lv_aload_n hx hb dX9_suit_101 rfl (lv_at hl 1 rfl) ?_
                        refine cg_X9_clock (i := 0) hx hb hts hin9 hown hK hP ((hR 0 (0)).mpr Nat.zero_lt_one) (by decide +kernel) dX9_suit_102 ?_
                        refine c_callep (ci := 4) (q := (RX4, TX4, 3)) (κ := 6) (i := 0) (As := [.int (x.1 0 0 8)]) (rest := []) ⟨hx, hb, hml, hown, hts⟩ (ctX4_inForce l D y ad x R qs nC nT hR (x.1 0 0 8) hsz hT15 hTx) (cwV 1 hts gX9_suit_X4_inForce rfl rfl rfl (by decide +kernel) ⟨Nat.le_of_ble_eq_true rfl, Nat.le_of_ble_eq_true rfl⟩) ((hR 6 (0)).mpr Nat.zero_lt_one) (fun _ _ _ => ⟨_, rfl⟩) rfl hE hK hP hD hS hA rfl hl.1 rfl (Nat.le_of_ble_eq_true rfl) dX9_suit_105 ⟨Nat.zero_le _, Nat.zero_le _⟩ (fun H locs hP hD hS => ?_)
                        refine lv_re (fun e9 => absurd (e9.symm.trans ((rfl : some (cFo x (x.1 0 0 8) nT) = some (cFo x (x.1 0 0 8) nT)))) (by simp)) (fun j9 e9 => ?_)
                        rw [show j9 = cFo x (x.1 0 0 8) nT from Option.some.inj (e9.symm.trans ((rfl : some (cFo x (x.1 0 0 8) nT) = some (cFo x (x.1 0 0 8) nT))))]
                        refine lv_iload_n hx hb dX9_suit_108 rfl (lv_at hl 3 rfl) ?_
                        refine lv_iload hx hb dX9_suit_109 (lv_at hl 6 rfl) ?_
                        refine c_callip (ci := 6) (q := (RX6, TX6, 2)) (κ := 25) (i := cFo x (x.1 0 0 8) nT) (As := [.int q, .int s9]) (rest := []) ⟨hx, hb, hml, hown, hts⟩ (ctX6_waterOf l D y ad x R qs nC nT hR (cFo x (x.1 0 0 8) nT) (sI q) q s9 (cFo_lt _ _ _) g2 g3) (cwV 2 hts gX9_suit_X6_waterOf rfl rfl rfl (by decide +kernel) ⟨Nat.le_of_ble_eq_true rfl, Nat.le_of_ble_eq_true rfl⟩) ((hR 25 (cFo x (x.1 0 0 8) nT)).mpr (cFo_lt x (x.1 0 0 8) nT)) (fun _ _ _ => ⟨_, rfl⟩) rfl hE hK hP hD hS hA rfl hl.1 rfl (Nat.le_of_ble_eq_true rfl) dX9_suit_111 ⟨Nat.zero_le _, Nat.zero_le _⟩ (fun H locs hP hD hS => ?_)
                        refine lv_topi (fun wt ewt => ?_)
                        refine lv_istore (lv' := [(7, .int wt), (6, .ref (ad 18 (sI k))), (0, .ref (ad 0 0)), (1, .int k), (2, .int q), (3, .int ac), (4, .int bc), (5, .int s9)]) hx hb dX9_suit_114 hl (by decide) rfl (fun ls hl => ?_)
                        refine lv_aload hx hb dX9_suit_116 (lv_at hl 1 rfl) ?_
                        refine cg_X2_suit (i := sI k) hx hb hts hin2 hown hK hP ((hR 18 (sI k)).mpr hbk) (by decide +kernel) dX9_suit_118 ?_
                        refine lv_iload_n hx hb dX9_suit_121 rfl (lv_at hl 4 rfl) ?_
                        refine lv_iload_n hx hb dX9_suit_122 rfl (lv_at hl 5 rfl) ?_
                        refine lv_iload hx hb dX9_suit_123 (lv_at hl 6 rfl) ?_
                        refine lv_iload hx hb dX9_suit_125 (lv_at hl 7 rfl) ?_
                        refine c_callv (ci := 7) (q := (RX7, TX7, 16)) (κ := 20) (i := sI k) (As := [.int q, .int ac, .int bc, .int s9]) (rest := []) ⟨hx, hb, hml, hown, hts⟩ (ctX7_begin l D y ad x R qs nC nT hR (sI k) q ac bc s9 hbk) (cwV 4 hts gX9_suit_X7_begin rfl rfl rfl (by decide +kernel) ⟨Nat.le_of_ble_eq_true rfl, Nat.le_of_ble_eq_true rfl⟩) ((hR 20 (sI k)).mpr hbk) (fun _ _ _ => ⟨_, rfl⟩) rfl hE hK hP hD hS hA rfl hl.1 rfl (Nat.le_of_ble_eq_true rfl) dX9_suit_127 ⟨Nat.zero_le _, Nat.zero_le _⟩ (fun x127 H locs h127 hP hD hS => ?_)
                        rw [h127] at hP hD
                        refine lv_aload hx hb dX9_suit_130 (lv_at hl 1 rfl) ?_
                        refine cg_X2_suit (i := sI k) hx hb hts hin2 hown hK hP ((hR 18 (sI k)).mpr hbk) (by decide +kernel) dX9_suit_132 ?_
                        refine lv_aload hx hb dX9_suit_135 (lv_at hl 1 rfl) ?_
                        refine cg_X2_size (i := sI k) hx hb hts hin2 hown hK hP ((hR 18 (sI k)).mpr hbk) (by decide +kernel) dX9_suit_137 ?_
                        rw [show (cBegin x (sI k) q ac bc s9).1 18 (sI k) 2 = x.1 18 (sI k) 2 by simp [cBegin, cI_r]]
                        refine lv_iload hx hb dX9_suit_140 (lv_at hl 0 rfl) ?_
                        refine c_callv (ci := 7) (q := (RX7, TX7, 16)) (κ := 20) (i := sI k) (As := [.int (x.1 18 (sI k) 2), .int wt]) (rest := []) ⟨hx, hb, hml, hown, hts⟩ (ctX7_prepare l D y ad (cBegin x (sI k) q ac bc s9) R qs nC nT hR (sI k) (x.1 18 (sI k) 2) wt hbk (hz25 _ hbk)) (cwV 2 hts gX9_suit_X7_prepare rfl rfl rfl (by decide +kernel) ⟨Nat.le_of_ble_eq_true rfl, Nat.le_of_ble_eq_true rfl⟩) ((hR 20 (sI k)).mpr hbk) (fun _ _ _ => ⟨_, rfl⟩) rfl hE hK hP hD hS hA rfl hl.1 rfl (Nat.le_of_ble_eq_true rfl) dX9_suit_142 ⟨Nat.zero_le _, Nat.zero_le _⟩ (fun x142 H locs h142 hP hD hS => ?_)
                        refine lv_iload hx hb dX9_suit_145 (lv_at hl 0 rfl) ?_
                        exact c_reti hx hb hr hlocks hAe hK hP hD hS rfl dX9_suit_147 (⟨fun _ => by rw [csSuit, if_neg (by simp [c_72, b80, c_91]), h142, ewt]; rfl, fun q9 => absurd (show okSuit9 x nC ns k q ac bc s9 from ⟨bk, g1, c_24, c_31, c_40, b50, b61⟩) q9⟩)
                      · refine lv_bipush (v := (-4)) hx hb dX9_suit_94 (by decide) ?_
                        exact c_reti hx hb hr hlocks hAe hK hP hD hS rfl dX9_suit_96 (⟨fun _ => by rw [csSuit, if_pos (by simp [c_91])], fun q9 => absurd (show okSuit9 x nC ns k q ac bc s9 from ⟨bk, g1, c_24, c_31, c_40, b50, b61⟩) q9⟩)
                · have b61 : cPar x (sI k) (ns (sI k)) nC bc = false := (zI_eq _).mp c_61
                  refine lv_bipush (v := (-2)) hx hb dX9_suit_64 (by decide) ?_
                  exact c_reti hx hb hr hlocks hAe hK hP hD hS rfl dX9_suit_66 (⟨fun q9 => absurd q9 (by simp [okSuit9, b61]), fun _ => ⟨rfl, rfl⟩⟩)
          · refine lv_bipush (v := (-2)) hx hb dX9_suit_34 (by decide) ?_
            exact c_reti hx hb hr hlocks hAe hK hP hD hS rfl dX9_suit_36 (⟨fun q9 => absurd q9 (by simp [okSuit9, e_2, c_24, Int32.not_lt.mp c_24, c_31, Int32.not_le.mp c_31]), fun _ => ⟨rfl, rfl⟩⟩)
theorem cCharge_keep (x : cS) (k : Nat) (p q : Int32) : (∀ a b c, ¬ (a = 20 ∧ 13 ≤ c) → (cCharge x k p q).1 a b c = x.1 a b c) ∧ (cCharge x k p q).2 = x.2 := by
  unfold cCharge
  split
  · refine ⟨fun a b c h => ?_, rfl⟩
    simp only [cI_r]
    rw [if_neg (by rintro ⟨h1, -, h2⟩; exact h ⟨h1, by omega⟩), if_neg (by rintro ⟨h1, -, h2⟩; exact h ⟨h1, by omega⟩)]
  · exact ⟨fun _ _ _ _ => rfl, rfl⟩
theorem cJ1_keep (x : cS) (k t n : Nat) : (∀ a b c, ¬ (a = 20 ∧ 13 ≤ c) → (cJ1 x k t n).1 a b c = x.1 a b c) ∧ (cJ1 x k t n).2 = x.2 := by
  refine ⟨fun a b c h => ?_, rfl⟩
  simp only [cJ1, cI_r]
  rw [if_neg (by rintro ⟨h1, -, h2⟩; exact h ⟨h1, by omega⟩), if_neg (by rintro ⟨h1, -, h2⟩; exact h ⟨h1, by omega⟩), if_neg (by rintro ⟨h1, -, h2⟩; exact h ⟨h1, by omega⟩)]
theorem cJudge_keep (x : cS) (k t n q : Nat) : (∀ a b c, ¬ (a = 20 ∧ 13 ≤ c) → (cJudge x k t n q).1 a b c = x.1 a b c) ∧ (cJudge x k t n q).2 = x.2 := by
  have h0 := cJ1_keep x k t n
  unfold cJudge
  split
  · exact ⟨fun a b c h => ((cCharge_keep _ _ _ _).1 a b c h).trans (h0.1 a b c h), (cCharge_keep _ _ _ _).2.trans h0.2⟩
  · split
    · exact ⟨fun a b c h => ((cCharge_keep _ _ _ _).1 a b c h).trans (h0.1 a b c h), (cCharge_keep _ _ _ _).2.trans h0.2⟩
    · exact h0
def clT9 (x : cS) (nT : Nat) : Nat := cFo x (x.1 0 0 8) nT
def clJ9 (x : cS) (nT k n q : Nat) : cS := cJudge x k (clT9 x nT) n q
def clD9 (x : cS) (nT k n q : Nat) : cS := cI (cI (clJ9 x nT k n q) 20 k 4 0) 0 0 9 (x.1 0 0 9 + 1)
def clE9 (x : cS) (nT k n q : Nat) (cs : Nat → Nat) : cS := cPay (clD9 x nT k n q) k (x.1 26 (clT9 x nT) 1) cs n
def csCloseK (x : cS) (nC nT k n q : Nat) (ns se cs : Nat → Nat) : Int32 × cS := match citF nC ((clJ9 x nT k n q).1 20 k 14) with
  | none => ((clJ9 x nT k n q).1 20 k 13, clE9 x nT k n q cs)
  | some c => if (clJ9 x nT k n q).1 20 k 15 ≤ 2000000000 - x.1 24 c 5 then ((clJ9 x nT k n q).1 20 k 13, cAddD (clE9 x nT k n q cs) ns se c ((clJ9 x nT k n q).1 20 k 15)) else (-3, cForg (clJ9 x nT k n q) k)
def csClose (x : cS) (nC nT : Nat) (ns se kq : Nat → Nat) (cs : Nat → Nat → Nat) (k : Int32) : Int32 × cS := if isK k then (if x.1 20 (sI k) 4 = 0 ∨ 0 < cnt (cWt x (sI k)) (se (sI k)) then (-4, x) else csCloseK x nC nT (sI k) (se (sI k)) (kq (sI k)) ns se (cs (sI k))) else (-2, x)
theorem clE9_keep (x : cS) (nT k n q : Nat) (cs : Nat → Nat) : (∀ a b c, ¬ (a = 20 ∧ (c = 4 ∨ 13 ≤ c)) → ¬ (a = 24 ∧ c = 6) → ¬ (a = 0 ∧ (c = 9 ∨ c = 10)) → (clE9 x nT k n q cs).1 a b c = x.1 a b c) ∧ (clE9 x nT k n q cs).2 = x.2 ∧ ∀ c, 13 ≤ c → (clE9 x nT k n q cs).1 20 k c = (clJ9 x nT k n q).1 20 k c := by
  obtain ⟨h1, h2⟩ := cPay_keep (clD9 x nT k n q) k (x.1 26 (clT9 x nT) 1) cs n
  obtain ⟨g1, g2⟩ := cJudge_keep x k (clT9 x nT) n q
  have hd : ∀ a b c, ¬ (a = 20 ∧ c = 4) → ¬ (a = 0 ∧ c = 9) → (clD9 x nT k n q).1 a b c = (clJ9 x nT k n q).1 a b c := fun a b c e1 e2 => by
    simp only [clD9, cI_r]
    rw [if_neg (by rintro ⟨q1, -, q2⟩; exact e2 ⟨q1, q2⟩), if_neg (by rintro ⟨q1, -, q2⟩; exact e1 ⟨q1, q2⟩)]
  refine ⟨fun a b c e1 e2 e3 => ?_, h2.trans g2, fun c hc => ?_⟩
  · rw [clE9, h1 a b c e2 (fun q9 => e3 ⟨q9.1, Or.inr q9.2⟩), hd a b c (fun q9 => e1 ⟨q9.1, Or.inl q9.2⟩) (fun q9 => e3 ⟨q9.1, Or.inl q9.2⟩)]
    exact g1 a b c (fun q9 => e1 ⟨q9.1, Or.inr q9.2⟩)
  · rw [clE9, h1 20 k c (by simp) (by simp), hd 20 k c (by omega) (by simp)]
theorem cAddD_v (x : cS) (ns se : Nat → Nat) (c : Nat) (s9 : Int32) (k j : Nat) : (cAddD x ns se c s9).1 20 k j = x.1 20 k j := by
  unfold cAddD cStrk
  split
  · split <;> simp [cOwe, cI_r]
  · simp [cOwe, cI_r]
set_option maxHeartbeats 4000000 in
set_option maxRecDepth 100000 in
/-- close -/
theorem ctX9_close (l : Launch) (D : va_G) (y : Nat → ClassId) (ad : Nat → Nat → Nat) (x : cS) (R : List (Nat × Nat)) (qs : Nat → Nat × Nat) (nC nT : Nat) (hR : cHas R nC nT) (k : Int32) (ns se kq : Nat → Nat) (cs : Nat → Nat → Nat) (hn : x.1 0 0 7 = nI nC) (hn1 : nC ≤ 150) (hro : ∀ c, c < nC → x.2.2 8 0 c = some c) (hsz : x.1 6 0 2 = nI nT) (hT15 : nT ≤ 15) (hTx : ∀ j, j < nT → x.2.2 7 0 j = some (j + 2)) (hns : ∀ k, k < 5 → x.1 18 k 3 = nI (ns k) ∧ ns k ≤ 25) (hse : ∀ k, k < 5 → x.1 20 k 5 = nI (se k) ∧ se k ≤ 25) (hop : ∀ k, k < 5 → ¬ x.1 20 k 4 = 0 → x.1 20 k 6 = nI (kq k) ∧ kq k < 6 ∧ se k = ns k) (hcs : ∀ k, k < 5 → ∀ i, i < ns k → x.1 19 k i = nI (cs k i) ∧ cs k i < nC) : cMi l yX9_close wsX9_close ({ frames := 3, cells := 0, slots := 0, locals := 68 }) D y ad x R qs [.ref (ad 0 0), .int k] (fun r x' => (r, x') = csClose x nC nT ns se kq cs k) := by
  refine cMi_of (cc := cX9_close) (maxL := 6) (ret := (some .int)) (by decide) rfl (Nat.le_of_ble_eq_true rfl) ?_
  intro p e s m below meth c A ls hat hAe hl
  obtain ⟨hx, hb, hr, hml, hts, hown, hlocks, hK, hP, hD, hA, hE⟩ := hat
  have hown : s.vm.findClass RX9 = some m.cls := hown
  have hin2 : ∀ w ∈ wsX20, w ∈ wsX9_close := fun _ h9 => List.mem_cons_of_mem _ (List.mem_append_left _ (List.mem_append_left _ (List.mem_append_left _ (List.mem_append_left _ (List.mem_append_left _ (List.mem_append_right _ h9))))))
  have hin7 : ∀ w ∈ wsX70, w ∈ wsX9_close := fun _ h9 => List.mem_cons_of_mem _ (List.mem_append_left _ (List.mem_append_left _ (List.mem_append_left _ (List.mem_append_left _ (List.mem_append_right _ h9)))))
  have hin9 : ∀ w ∈ wsX90, w ∈ wsX9_close := fun _ h9 => List.mem_cons_of_mem _ (List.mem_append_left _ (List.mem_append_left _ (List.mem_append_left _ (List.mem_append_right _ h9))))
  have hin1 : ∀ w ∈ wsX10, w ∈ wsX9_close := fun _ h9 => List.mem_cons_of_mem _ (List.mem_append_left _ (List.mem_append_left _ (List.mem_append_right _ h9)))
  have hin4 : ∀ w ∈ wsX40, w ∈ wsX9_close := fun _ h9 => List.mem_cons_of_mem _ (List.mem_append_left _ (List.mem_append_right _ h9))
  have hin6 : ∀ w ∈ wsX60, w ∈ wsX9_close := fun _ h9 => List.mem_cons_of_mem _ (List.mem_append_right _ h9)
  have hl : lv_has ls 6 [(0, .ref (ad 0 0)), (1, .int k)] := hl
  have hS : va_S A s.heap s.heap [] := va_S.rf
  refine lv_aload_n hx hb dX9_close_0 rfl (lv_at hl 0 rfl) ?_
  refine lv_iload_n hx hb dX9_close_1 rfl (lv_at hl 1 rfl) ?_
  refine c_callep (ci := 9) (q := (RX9, TX9, 11)) (κ := 0) (i := 0) (As := [.int k]) (rest := []) ⟨hx, hb, hml, hown, hts⟩ (ctX9_courtAt l D y ad x R qs nC nT hR (k)) (cwV 1 hts gX9_close_X9_courtAt rfl rfl rfl (by decide +kernel) ⟨Nat.le_of_ble_eq_true rfl, Nat.le_of_ble_eq_true rfl⟩) ((hR 0 (0)).mpr Nat.zero_lt_one) (fun _ _ _ => ⟨_, rfl⟩) rfl hE hK hP hD hS hA rfl hl.1 rfl (Nat.le_of_ble_eq_true rfl) dX9_close_2 ⟨Nat.zero_le _, Nat.zero_le _⟩ (fun H locs hP hD hS => ?_)
  refine lv_re (fun e_2 => ?_) (fun k9 e_2 => ?_)
  · have bk : isK (k) = false := crtF_n e_2
    refine lv_astore_nN (lv' := [(2, .null), (0, .ref (ad 0 0)), (1, .int k)]) hx hb dX9_close_5 rfl hl (by decide) rfl (fun ls hl => ?_)
    refine lv_aload_nN hx hb dX9_close_6 rfl (lv_at hl 0 rfl) ?_
    refine lv_ifnonnullN hx hb dX9_close_7 ?_
    refine lv_bipush (v := (-2)) hx hb dX9_close_10 (by decide) ?_
    exact c_reti hx hb hr hlocks hAe hK hP hD hS rfl dX9_close_12 (by rw [csClose, if_neg (by rw [bk]; decide)])
  · obtain ⟨bk, hbk, ebk⟩ := crtF_s e_2
    rw [ebk]
    refine lv_astore_n (lv' := [(2, .ref (ad 18 (sI k))), (0, .ref (ad 0 0)), (1, .int k)]) hx hb dX9_close_5 rfl hl (by decide) rfl (fun ls hl => ?_)
    refine lv_aload_n hx hb dX9_close_6 rfl (lv_at hl 0 rfl) ?_
    refine lv_ifnonnull (tgt := 13) hx hb dX9_close_7 (by decide) ?_
    refine lv_aload_n hx hb dX9_close_13 rfl (lv_at hl 0 rfl) ?_
    refine cg_X2_suit (i := sI k) hx hb hts hin2 hown hK hP ((hR 18 (sI k)).mpr hbk) (by decide +kernel) dX9_close_14 ?_
    refine lv_astore_n (lv' := [(3, .ref (ad 20 (sI k))), (2, .ref (ad 18 (sI k))), (0, .ref (ad 0 0)), (1, .int k)]) hx hb dX9_close_17 rfl hl (by decide) rfl (fun ls hl => ?_)
    refine lv_aload_n hx hb dX9_close_18 rfl (lv_at hl 0 rfl) ?_
    refine cg_X7_open (i := sI k) hx hb hts hin7 hown hK hP ((hR 20 (sI k)).mpr hbk) (by decide +kernel) dX9_close_19 ?_
    refine lv_if_eq (tgt := 32) hx hb dX9_close_22 (by decide) (fun c_22 => ?_) (fun c_22 => ?_)
    · refine lv_bipush (v := (-4)) hx hb dX9_close_32 (by decide) ?_
      exact c_reti hx hb hr hlocks hAe hK hP hD hS rfl dX9_close_34 (by rw [csClose, if_pos bk, if_pos (by simp [c_22])])
    · refine lv_aload_n hx hb dX9_close_25 rfl (lv_at hl 0 rfl) ?_
      refine c_callip (ci := 7) (q := (RX7, TX7, 16)) (κ := 20) (i := sI k) (As := []) (rest := []) ⟨hx, hb, hml, hown, hts⟩ (ctX7_wanting l D y ad x R qs nC nT hR (sI k) (se (sI k)) hbk (hse _ hbk).1 (hse _ hbk).2) (cwV 0 hts gX9_close_X7_wanting rfl rfl rfl (by decide +kernel) ⟨Nat.le_of_ble_eq_true rfl, Nat.le_of_ble_eq_true rfl⟩) ((hR 20 (sI k)).mpr hbk) (fun _ _ _ => ⟨_, rfl⟩) rfl hE hK hP hD hS hA rfl hl.1 rfl (Nat.le_of_ble_eq_true rfl) dX9_close_26 ⟨Nat.zero_le _, Nat.zero_le _⟩ (fun H locs hP hD hS => ?_)
      refine lv_if_le (tgt := 35) hx hb dX9_close_29 (by decide) (fun c_29 => ?_) (fun c_29 => ?_)
      · have h29 : ¬ 0 < cnt (cWt x (sI k)) (se (sI k)) := by have h8 := cnt_le (cWt x (sI k)) (se (sI k)); have h7 := (hse _ hbk).2; have h9 := (nI_leI (b := 0) (by omega) (by omega)).mp c_29; omega
        obtain ⟨hkq1, hkq2, hkq3⟩ := hop _ hbk c_22
        refine lv_aload_n hx hb dX9_close_35 rfl (lv_at hl 2 rfl) ?_
        refine cg_X9_book (i := 0) hx hb hts hin9 hown hK hP ((hR 0 (0)).mpr Nat.zero_lt_one) (by decide +kernel) dX9_close_36 ?_
        refine lv_aload_n hx hb dX9_close_39 rfl (lv_at hl 2 rfl) ?_
        refine cg_X9_clock (i := 0) hx hb hts hin9 hown hK hP ((hR 0 (0)).mpr Nat.zero_lt_one) (by decide +kernel) dX9_close_40 ?_
        refine c_callep (ci := 4) (q := (RX4, TX4, 3)) (κ := 6) (i := 0) (As := [.int (x.1 0 0 8)]) (rest := []) ⟨hx, hb, hml, hown, hts⟩ (ctX4_inForce l D y ad x R qs nC nT hR (x.1 0 0 8) hsz hT15 hTx) (cwV 1 hts gX9_close_X4_inForce rfl rfl rfl (by decide +kernel) ⟨Nat.le_of_ble_eq_true rfl, Nat.le_of_ble_eq_true rfl⟩) ((hR 6 (0)).mpr Nat.zero_lt_one) (fun _ _ _ => ⟨_, rfl⟩) rfl hE hK hP hD hS hA rfl hl.1 rfl (Nat.le_of_ble_eq_true rfl) dX9_close_43 ⟨Nat.zero_le _, Nat.zero_le _⟩ (fun H locs hP hD hS => ?_)
        refine lv_re (fun e9 => absurd (e9.symm.trans ((rfl : some (cFo x (x.1 0 0 8) nT) = some (cFo x (x.1 0 0 8) nT)))) (by simp)) (fun j9 e9 => ?_)
        rw [show j9 = cFo x (x.1 0 0 8) nT from Option.some.inj (e9.symm.trans ((rfl : some (cFo x (x.1 0 0 8) nT) = some (cFo x (x.1 0 0 8) nT))))]
        refine lv_astore (lv' := [(4, .ref (ad 25 (cFo x (x.1 0 0 8) nT))), (3, .ref (ad 20 (sI k))), (2, .ref (ad 18 (sI k))), (0, .ref (ad 0 0)), (1, .int k)]) hx hb dX9_close_46 hl (by decide) rfl (fun ls hl => ?_)
        refine lv_aload_n hx hb dX9_close_48 rfl (lv_at hl 1 rfl) ?_
        refine lv_aload hx hb dX9_close_49 (lv_at hl 0 rfl) ?_
        refine c_callv (ci := 7) (q := (RX7, TX7, 16)) (κ := 20) (i := sI k) (As := [.ref (ad 25 (cFo x (x.1 0 0 8) nT))]) (rest := []) ⟨hx, hb, hml, hown, hts⟩ (ctX7_judge l D y ad x R qs nC nT hR (sI k) (cFo x (x.1 0 0 8) nT) (se (sI k)) (kq (sI k)) hbk (cFo_lt _ _ _) (hse _ hbk).1 (hse _ hbk).2 hkq2 hkq1) (cwV 1 hts gX9_close_X7_judge rfl rfl rfl (by decide +kernel) ⟨Nat.le_of_ble_eq_true rfl, Nat.le_of_ble_eq_true rfl⟩) ((hR 20 (sI k)).mpr hbk) (fun _ _ _ => ⟨_, rfl⟩) rfl hE hK hP hD hS hA rfl hl.1 rfl (Nat.le_of_ble_eq_true rfl) dX9_close_51 ⟨Nat.zero_le _, Nat.zero_le _⟩ (fun x51 H locs h51 hP hD hS => ?_)
        obtain ⟨hj1, hj2⟩ := cJudge_keep x (sI k) (clT9 x nT) (se (sI k)) (kq (sI k))
        have hP : va_P D vwCl (cW ad y (clJ9 x nT (sI k) (se (sI k)) (kq (sI k))) R) H := by rw [show (clJ9 x nT (sI k) (se (sI k)) (kq (sI k))) = x51 from h51.symm]; exact hP
        have hD : va_D A (cW ad y (clJ9 x nT (sI k) (se (sI k)) (kq (sI k))) R) := by rw [show (clJ9 x nT (sI k) (se (sI k)) (kq (sI k))) = x51 from h51.symm]; exact hD
        have hnj : (clJ9 x nT (sI k) (se (sI k)) (kq (sI k))).1 0 0 7 = nI nC := (hj1 0 0 7 (by simp)).trans hn
        have hroj : ∀ c, c < nC → (clJ9 x nT (sI k) (se (sI k)) (kq (sI k))).2.2 8 0 c = some c := fun c hc => by rw [show (clJ9 x nT (sI k) (se (sI k)) (kq (sI k))).2 = x.2 from hj2]; exact hro c hc
        refine lv_aload_n hx hb dX9_close_54 rfl (lv_at hl 3 rfl) ?_
        refine lv_aload_n hx hb dX9_close_55 rfl (lv_at hl 1 rfl) ?_
        refine cg_X7_debtor (i := sI k) hx hb hts hin7 hown hK hP ((hR 20 (sI k)).mpr hbk) (by decide +kernel) dX9_close_56 ?_
        refine c_callep (ci := 9) (q := (RX9, TX9, 11)) (κ := 0) (i := 0) (As := [.int ((clJ9 x nT (sI k) (se (sI k)) (kq (sI k))).1 20 (sI k) 14)]) (rest := []) ⟨hx, hb, hml, hown, hts⟩ (ctX9_citizenAt l D y ad (clJ9 x nT (sI k) (se (sI k)) (kq (sI k))) R qs nC nT hR ((clJ9 x nT (sI k) (se (sI k)) (kq (sI k))).1 20 (sI k) 14) hnj hn1 hroj) (cwV 1 hts gX9_close_X9_citizenAt rfl rfl rfl (by decide +kernel) ⟨Nat.le_of_ble_eq_true rfl, Nat.le_of_ble_eq_true rfl⟩) ((hR 0 (0)).mpr Nat.zero_lt_one) (fun _ _ _ => ⟨_, rfl⟩) rfl hE hK hP hD hS hA rfl hl.1 rfl (Nat.le_of_ble_eq_true rfl) dX9_close_59 ⟨Nat.zero_le _, Nat.zero_le _⟩ (fun H locs hP hD hS => ?_)
        refine lv_re (fun e_59 => ?_) (fun c9 e_59 => ?_)
        · have b9 : citF nC ((clJ9 x nT (sI k) (se (sI k)) (kq (sI k))).1 20 (sI k) 14) = none := e_59
          refine lv_astoreN (lv' := [(5, .null), (4, .ref (ad 25 (cFo x (x.1 0 0 8) nT))), (3, .ref (ad 20 (sI k))), (2, .ref (ad 18 (sI k))), (0, .ref (ad 0 0)), (1, .int k)]) hx hb dX9_close_62 hl (by decide) rfl (fun ls hl => ?_)
          refine lv_aloadN hx hb dX9_close_64 (lv_at hl 0 rfl) ?_
          refine lv_ifnullN (tgt := 91) hx hb dX9_close_66 (by decide) ?_
          refine lv_aload_n hx hb dX9_close_91 rfl (lv_at hl 2 rfl) ?_
          refine lv_iconst (v := 0) hx hb dX9_close_92 (by decide) ?_
          refine cp_X7_open (i := sI k) hx hb hts hin7 hown hK hP hD hS ((hR 20 (sI k)).mpr hbk) (by decide) (by decide +kernel) dX9_close_93 (fun H locs hP hD hS => ?_)
          refine lv_aload_n hx hb dX9_close_96 rfl (lv_at hl 4 rfl) ?_
          refine lv_dup hx hb dX9_close_97 rfl ?_
          refine cg_X9_suitsClosed (i := 0) hx hb hts hin9 hown hK hP ((hR 0 (0)).mpr Nat.zero_lt_one) (by decide +kernel) dX9_close_98 ?_
          refine lv_iconst (v := 1) hx hb dX9_close_101 (by decide) ?_
          refine lv_iadd hx hb dX9_close_102 ?_
          refine cp_X9_suitsClosed (i := 0) hx hb hts hin9 hown hK hP hD hS ((hR 0 (0)).mpr Nat.zero_lt_one) (by decide +kernel) dX9_close_103 (fun H locs hP hD hS => ?_)
          have hP : va_P D vwCl (cW ad y (clD9 x nT (sI k) (se (sI k)) (kq (sI k))) R) H := by rw [show (clD9 x nT (sI k) (se (sI k)) (kq (sI k))) = cI (cI (clJ9 x nT (sI k) (se (sI k)) (kq (sI k))) 20 (sI k) 4 0) 0 0 9 ((cI (clJ9 x nT (sI k) (se (sI k)) (kq (sI k))) 20 (sI k) 4 0).1 0 0 9 + 1) by rw [clD9, show (cI (clJ9 x nT (sI k) (se (sI k)) (kq (sI k))) 20 (sI k) 4 0).1 0 0 9 = x.1 0 0 9 by simp only [cI_r]; rw [if_neg (by simp)]; exact hj1 0 0 9 (by simp)]]; exact hP
          have hD : va_D A (cW ad y (clD9 x nT (sI k) (se (sI k)) (kq (sI k))) R) := by rw [show (clD9 x nT (sI k) (se (sI k)) (kq (sI k))) = cI (cI (clJ9 x nT (sI k) (se (sI k)) (kq (sI k))) 20 (sI k) 4 0) 0 0 9 ((cI (clJ9 x nT (sI k) (se (sI k)) (kq (sI k))) 20 (sI k) 4 0).1 0 0 9 + 1) by rw [clD9, show (cI (clJ9 x nT (sI k) (se (sI k)) (kq (sI k))) 20 (sI k) 4 0).1 0 0 9 = x.1 0 0 9 by simp only [cI_r]; rw [if_neg (by simp)]; exact hj1 0 0 9 (by simp)]]; exact hD
          have hd1 : ∀ a b c, ¬ (a = 20 ∧ (c = 4 ∨ 13 ≤ c)) → ¬ (a = 0 ∧ c = 9) → (clD9 x nT (sI k) (se (sI k)) (kq (sI k))).1 a b c = x.1 a b c := fun a b c e1 e2 => by simp only [clD9, cI_r]; rw [if_neg (by rintro ⟨q1, -, q2⟩; exact e2 ⟨q1, q2⟩), if_neg (by rintro ⟨q1, -, q2⟩; exact e1 ⟨q1, Or.inl q2⟩)]; exact hj1 a b c (fun q9 => e1 ⟨q9.1, Or.inr q9.2⟩)
          have hnd : (clD9 x nT (sI k) (se (sI k)) (kq (sI k))).1 0 0 7 = nI nC := (hd1 0 0 7 (by simp) (by simp)).trans hn
          have hrod : ∀ c, c < nC → (clD9 x nT (sI k) (se (sI k)) (kq (sI k))).2.2 8 0 c = some c := fun c hc => by rw [show (clD9 x nT (sI k) (se (sI k)) (kq (sI k))).2 = x.2 from hj2]; exact hro c hc
          have hsd1 : (clD9 x nT (sI k) (se (sI k)) (kq (sI k))).1 18 (sI k) 3 = nI (se (sI k)) := by rw [hd1 18 (sI k) 3 (by simp) (by simp), hkq3]; exact (hns _ hbk).1
          have hsd2 : (clD9 x nT (sI k) (se (sI k)) (kq (sI k))).1 20 (sI k) 5 = nI (se (sI k)) := (hd1 20 (sI k) 5 (by simp) (by simp)).trans (hse _ hbk).1
          have hcsd : ∀ i, i < se (sI k) → (clD9 x nT (sI k) (se (sI k)) (kq (sI k))).1 19 (sI k) i = nI (cs (sI k) i) ∧ cs (sI k) i < nC := fun i hi => by rw [hd1 19 (sI k) i (by simp) (by simp)]; exact hcs _ hbk i (by rw [← hkq3]; exact hi)
          refine lv_aload_n hx hb dX9_close_106 rfl (lv_at hl 4 rfl) ?_
          refine lv_aload_n hx hb dX9_close_107 rfl (lv_at hl 3 rfl) ?_
          refine lv_aload hx hb dX9_close_108 (lv_at hl 1 rfl) ?_
          refine lv_iconst (v := 1) hx hb dX9_close_110 (by decide) ?_
          refine c_callip (ci := 6) (q := (RX6, TX6, 2)) (κ := 25) (i := cFo x (x.1 0 0 8) nT) (As := [.int 1]) (rest := [.ref (ad 18 (sI k)), .ref (ad 0 0)]) ⟨hx, hb, hml, hown, hts⟩ (ctX6_answer l D y ad (clD9 x nT (sI k) (se (sI k)) (kq (sI k))) R qs nC nT hR (cFo x (x.1 0 0 8) nT) 1 (cFo_lt x (x.1 0 0 8) nT)) (cwV 1 hts gX9_close_X6_answer rfl rfl rfl (by decide +kernel) ⟨Nat.le_of_ble_eq_true rfl, Nat.le_of_ble_eq_true rfl⟩) ((hR 25 (cFo x (x.1 0 0 8) nT)).mpr (cFo_lt x (x.1 0 0 8) nT)) (fun _ _ _ => ⟨_, rfl⟩) rfl hE hK hP hD hS hA rfl hl.1 rfl (Nat.le_of_ble_eq_true rfl) dX9_close_111 ⟨Nat.zero_le _, Nat.zero_le _⟩ (fun H locs hP hD hS => ?_)
          rw [show cAns (clD9 x nT (sI k) (se (sI k)) (kq (sI k))) (cFo x (x.1 0 0 8) nT) 1 = x.1 26 (clT9 x nT) 1 from (cAns_k (clD9 x nT (sI k) (se (sI k)) (kq (sI k))) (cFo x (x.1 0 0 8) nT) (j := 1) (by omega)).trans (hd1 26 (clT9 x nT) 1 (by simp) (by simp))]
          refine c_callv (ci := 9) (q := (RX9, TX9, 11)) (κ := 0) (i := 0) (As := [.ref (ad 18 (sI k)), .int (x.1 26 (clT9 x nT) 1)]) (rest := []) ⟨hx, hb, hml, hown, hts⟩ (ctX9_payDiscs l D y ad (clD9 x nT (sI k) (se (sI k)) (kq (sI k))) R qs nC nT hR (x.1 26 (clT9 x nT) 1) (sI k) (se (sI k)) (cs (sI k)) hnd hn1 hrod hbk hsd1 hsd2 (hse _ hbk).2 hcsd) (cwV 2 hts gX9_close_X9_payDiscs rfl rfl rfl (by decide +kernel) ⟨Nat.le_of_ble_eq_true rfl, Nat.le_of_ble_eq_true rfl⟩) ((hR 0 (0)).mpr Nat.zero_lt_one) (fun _ _ _ => ⟨_, rfl⟩) rfl hE hK hP hD hS hA rfl hl.1 rfl (Nat.le_of_ble_eq_true rfl) dX9_close_114 ⟨Nat.zero_le _, Nat.zero_le _⟩ (fun x115 H locs h115 hP hD hS => ?_)
          obtain ⟨hE1, hE2, hE3⟩ := clE9_keep x nT (sI k) (se (sI k)) (kq (sI k)) (cs (sI k))
          have hP : va_P D vwCl (cW ad y (clE9 x nT (sI k) (se (sI k)) (kq (sI k)) (cs (sI k))) R) H := by rw [show (clE9 x nT (sI k) (se (sI k)) (kq (sI k)) (cs (sI k))) = x115 from h115.symm]; exact hP
          have hD : va_D A (cW ad y (clE9 x nT (sI k) (se (sI k)) (kq (sI k)) (cs (sI k))) R) := by rw [show (clE9 x nT (sI k) (se (sI k)) (kq (sI k)) (cs (sI k))) = x115 from h115.symm]; exact hD
          have hnse : ∀ k9, k9 < 5 → (clE9 x nT (sI k) (se (sI k)) (kq (sI k)) (cs (sI k))).1 18 k9 3 = nI (ns k9) ∧ ns k9 ≤ 25 := fun k9 h9 => by rw [hE1 18 k9 3 (by simp) (by simp) (by simp)]; exact hns k9 h9
          have hsee : ∀ k9, k9 < 5 → (clE9 x nT (sI k) (se (sI k)) (kq (sI k)) (cs (sI k))).1 20 k9 5 = nI (se k9) ∧ se k9 ≤ 25 := fun k9 h9 => by rw [hE1 20 k9 5 (by simp) (by simp) (by simp)]; exact hse k9 h9
          refine lv_aloadN hx hb dX9_close_117 (lv_at hl 0 rfl) ?_
          refine lv_ifnullN (tgt := 132) hx hb dX9_close_119 (by decide) ?_
          refine lv_aload_n hx hb dX9_close_132 rfl (lv_at hl 2 rfl) ?_
          refine cg_X7_verdict (i := sI k) hx hb hts hin7 hown hK hP ((hR 20 (sI k)).mpr hbk) (by decide +kernel) dX9_close_133 ?_
          exact c_reti hx hb hr hlocks hAe hK hP hD hS rfl dX9_close_136 (by rw [csClose, if_pos bk, if_neg (by simp [c_22, h29]), csCloseK, b9]; simp only []; rw [hE3 13 (by omega)])
        · have b9 : citF nC ((clJ9 x nT (sI k) (se (sI k)) (kq (sI k))).1 20 (sI k) 14) = some c9 := e_59
          have hb9 : c9 < nC := by obtain ⟨q1, q2, q3⟩ := citF_s hn1 e_59; rw [q3]; exact q2
          refine lv_astore (lv' := [(5, .ref (ad 24 c9)), (4, .ref (ad 25 (cFo x (x.1 0 0 8) nT))), (3, .ref (ad 20 (sI k))), (2, .ref (ad 18 (sI k))), (0, .ref (ad 0 0)), (1, .int k)]) hx hb dX9_close_62 hl (by decide) rfl (fun ls hl => ?_)
          refine lv_aload hx hb dX9_close_64 (lv_at hl 0 rfl) ?_
          refine lv_ifnull hx hb dX9_close_66 ?_
          refine lv_aload_n hx hb dX9_close_69 rfl (lv_at hl 2 rfl) ?_
          refine cg_X7_debt (i := sI k) hx hb hts hin7 hown hK hP ((hR 20 (sI k)).mpr hbk) (by decide +kernel) dX9_close_70 ?_
          refine lv_ldc (v := 2000000000) hx hb hown (hts (.constant RX9 118 (2000000000)) (by decide +kernel)) dX9_close_73 ?_
          refine lv_aload hx hb dX9_close_75 (lv_at hl 0 rfl) ?_
          refine cg_X1_owed (i := c9) hx hb hts hin1 hown hK hP ((hR 24 (c9)).mpr hb9) (by decide +kernel) dX9_close_77 ?_
          refine lv_isub hx hb dX9_close_80 ?_
          refine lv_icmp_le (tgt := 91) hx hb dX9_close_81 (by decide) (fun c_81 => ?_) (fun c_81 => ?_)
          · rw [show (clJ9 x nT (sI k) (se (sI k)) (kq (sI k))).1 24 c9 5 = x.1 24 c9 5 from hj1 24 c9 5 (by simp)] at c_81
            refine lv_aload_n hx hb dX9_close_91 rfl (lv_at hl 2 rfl) ?_
            refine lv_iconst (v := 0) hx hb dX9_close_92 (by decide) ?_
            refine cp_X7_open (i := sI k) hx hb hts hin7 hown hK hP hD hS ((hR 20 (sI k)).mpr hbk) (by decide) (by decide +kernel) dX9_close_93 (fun H locs hP hD hS => ?_)
            refine lv_aload_n hx hb dX9_close_96 rfl (lv_at hl 4 rfl) ?_
            refine lv_dup hx hb dX9_close_97 rfl ?_
            refine cg_X9_suitsClosed (i := 0) hx hb hts hin9 hown hK hP ((hR 0 (0)).mpr Nat.zero_lt_one) (by decide +kernel) dX9_close_98 ?_
            refine lv_iconst (v := 1) hx hb dX9_close_101 (by decide) ?_
            refine lv_iadd hx hb dX9_close_102 ?_
            refine cp_X9_suitsClosed (i := 0) hx hb hts hin9 hown hK hP hD hS ((hR 0 (0)).mpr Nat.zero_lt_one) (by decide +kernel) dX9_close_103 (fun H locs hP hD hS => ?_)
            have hP : va_P D vwCl (cW ad y (clD9 x nT (sI k) (se (sI k)) (kq (sI k))) R) H := by rw [show (clD9 x nT (sI k) (se (sI k)) (kq (sI k))) = cI (cI (clJ9 x nT (sI k) (se (sI k)) (kq (sI k))) 20 (sI k) 4 0) 0 0 9 ((cI (clJ9 x nT (sI k) (se (sI k)) (kq (sI k))) 20 (sI k) 4 0).1 0 0 9 + 1) by rw [clD9, show (cI (clJ9 x nT (sI k) (se (sI k)) (kq (sI k))) 20 (sI k) 4 0).1 0 0 9 = x.1 0 0 9 by simp only [cI_r]; rw [if_neg (by simp)]; exact hj1 0 0 9 (by simp)]]; exact hP
            have hD : va_D A (cW ad y (clD9 x nT (sI k) (se (sI k)) (kq (sI k))) R) := by rw [show (clD9 x nT (sI k) (se (sI k)) (kq (sI k))) = cI (cI (clJ9 x nT (sI k) (se (sI k)) (kq (sI k))) 20 (sI k) 4 0) 0 0 9 ((cI (clJ9 x nT (sI k) (se (sI k)) (kq (sI k))) 20 (sI k) 4 0).1 0 0 9 + 1) by rw [clD9, show (cI (clJ9 x nT (sI k) (se (sI k)) (kq (sI k))) 20 (sI k) 4 0).1 0 0 9 = x.1 0 0 9 by simp only [cI_r]; rw [if_neg (by simp)]; exact hj1 0 0 9 (by simp)]]; exact hD
            have hd1 : ∀ a b c, ¬ (a = 20 ∧ (c = 4 ∨ 13 ≤ c)) → ¬ (a = 0 ∧ c = 9) → (clD9 x nT (sI k) (se (sI k)) (kq (sI k))).1 a b c = x.1 a b c := fun a b c e1 e2 => by simp only [clD9, cI_r]; rw [if_neg (by rintro ⟨q1, -, q2⟩; exact e2 ⟨q1, q2⟩), if_neg (by rintro ⟨q1, -, q2⟩; exact e1 ⟨q1, Or.inl q2⟩)]; exact hj1 a b c (fun q9 => e1 ⟨q9.1, Or.inr q9.2⟩)
            have hnd : (clD9 x nT (sI k) (se (sI k)) (kq (sI k))).1 0 0 7 = nI nC := (hd1 0 0 7 (by simp) (by simp)).trans hn
            have hrod : ∀ c, c < nC → (clD9 x nT (sI k) (se (sI k)) (kq (sI k))).2.2 8 0 c = some c := fun c hc => by rw [show (clD9 x nT (sI k) (se (sI k)) (kq (sI k))).2 = x.2 from hj2]; exact hro c hc
            have hsd1 : (clD9 x nT (sI k) (se (sI k)) (kq (sI k))).1 18 (sI k) 3 = nI (se (sI k)) := by rw [hd1 18 (sI k) 3 (by simp) (by simp), hkq3]; exact (hns _ hbk).1
            have hsd2 : (clD9 x nT (sI k) (se (sI k)) (kq (sI k))).1 20 (sI k) 5 = nI (se (sI k)) := (hd1 20 (sI k) 5 (by simp) (by simp)).trans (hse _ hbk).1
            have hcsd : ∀ i, i < se (sI k) → (clD9 x nT (sI k) (se (sI k)) (kq (sI k))).1 19 (sI k) i = nI (cs (sI k) i) ∧ cs (sI k) i < nC := fun i hi => by rw [hd1 19 (sI k) i (by simp) (by simp)]; exact hcs _ hbk i (by rw [← hkq3]; exact hi)
            refine lv_aload_n hx hb dX9_close_106 rfl (lv_at hl 4 rfl) ?_
            refine lv_aload_n hx hb dX9_close_107 rfl (lv_at hl 3 rfl) ?_
            refine lv_aload hx hb dX9_close_108 (lv_at hl 1 rfl) ?_
            refine lv_iconst (v := 1) hx hb dX9_close_110 (by decide) ?_
            refine c_callip (ci := 6) (q := (RX6, TX6, 2)) (κ := 25) (i := cFo x (x.1 0 0 8) nT) (As := [.int 1]) (rest := [.ref (ad 18 (sI k)), .ref (ad 0 0)]) ⟨hx, hb, hml, hown, hts⟩ (ctX6_answer l D y ad (clD9 x nT (sI k) (se (sI k)) (kq (sI k))) R qs nC nT hR (cFo x (x.1 0 0 8) nT) 1 (cFo_lt x (x.1 0 0 8) nT)) (cwV 1 hts gX9_close_X6_answer rfl rfl rfl (by decide +kernel) ⟨Nat.le_of_ble_eq_true rfl, Nat.le_of_ble_eq_true rfl⟩) ((hR 25 (cFo x (x.1 0 0 8) nT)).mpr (cFo_lt x (x.1 0 0 8) nT)) (fun _ _ _ => ⟨_, rfl⟩) rfl hE hK hP hD hS hA rfl hl.1 rfl (Nat.le_of_ble_eq_true rfl) dX9_close_111 ⟨Nat.zero_le _, Nat.zero_le _⟩ (fun H locs hP hD hS => ?_)
            rw [show cAns (clD9 x nT (sI k) (se (sI k)) (kq (sI k))) (cFo x (x.1 0 0 8) nT) 1 = x.1 26 (clT9 x nT) 1 from (cAns_k (clD9 x nT (sI k) (se (sI k)) (kq (sI k))) (cFo x (x.1 0 0 8) nT) (j := 1) (by omega)).trans (hd1 26 (clT9 x nT) 1 (by simp) (by simp))]
            refine c_callv (ci := 9) (q := (RX9, TX9, 11)) (κ := 0) (i := 0) (As := [.ref (ad 18 (sI k)), .int (x.1 26 (clT9 x nT) 1)]) (rest := []) ⟨hx, hb, hml, hown, hts⟩ (ctX9_payDiscs l D y ad (clD9 x nT (sI k) (se (sI k)) (kq (sI k))) R qs nC nT hR (x.1 26 (clT9 x nT) 1) (sI k) (se (sI k)) (cs (sI k)) hnd hn1 hrod hbk hsd1 hsd2 (hse _ hbk).2 hcsd) (cwV 2 hts gX9_close_X9_payDiscs rfl rfl rfl (by decide +kernel) ⟨Nat.le_of_ble_eq_true rfl, Nat.le_of_ble_eq_true rfl⟩) ((hR 0 (0)).mpr Nat.zero_lt_one) (fun _ _ _ => ⟨_, rfl⟩) rfl hE hK hP hD hS hA rfl hl.1 rfl (Nat.le_of_ble_eq_true rfl) dX9_close_114 ⟨Nat.zero_le _, Nat.zero_le _⟩ (fun x115 H locs h115 hP hD hS => ?_)
            obtain ⟨hE1, hE2, hE3⟩ := clE9_keep x nT (sI k) (se (sI k)) (kq (sI k)) (cs (sI k))
            have hP : va_P D vwCl (cW ad y (clE9 x nT (sI k) (se (sI k)) (kq (sI k)) (cs (sI k))) R) H := by rw [show (clE9 x nT (sI k) (se (sI k)) (kq (sI k)) (cs (sI k))) = x115 from h115.symm]; exact hP
            have hD : va_D A (cW ad y (clE9 x nT (sI k) (se (sI k)) (kq (sI k)) (cs (sI k))) R) := by rw [show (clE9 x nT (sI k) (se (sI k)) (kq (sI k)) (cs (sI k))) = x115 from h115.symm]; exact hD
            have hnse : ∀ k9, k9 < 5 → (clE9 x nT (sI k) (se (sI k)) (kq (sI k)) (cs (sI k))).1 18 k9 3 = nI (ns k9) ∧ ns k9 ≤ 25 := fun k9 h9 => by rw [hE1 18 k9 3 (by simp) (by simp) (by simp)]; exact hns k9 h9
            have hsee : ∀ k9, k9 < 5 → (clE9 x nT (sI k) (se (sI k)) (kq (sI k)) (cs (sI k))).1 20 k9 5 = nI (se k9) ∧ se k9 ≤ 25 := fun k9 h9 => by rw [hE1 20 k9 5 (by simp) (by simp) (by simp)]; exact hse k9 h9
            refine lv_aload hx hb dX9_close_117 (lv_at hl 0 rfl) ?_
            refine lv_ifnull hx hb dX9_close_119 ?_
            refine lv_aload_n hx hb dX9_close_122 rfl (lv_at hl 4 rfl) ?_
            refine lv_aload hx hb dX9_close_123 (lv_at hl 0 rfl) ?_
            refine lv_aload_n hx hb dX9_close_125 rfl (lv_at hl 2 rfl) ?_
            refine cg_X7_debt (i := sI k) hx hb hts hin7 hown hK hP ((hR 20 (sI k)).mpr hbk) (by decide +kernel) dX9_close_126 ?_
            rw [hE3 15 (by omega)]
            refine c_callv (ci := 9) (q := (RX9, TX9, 11)) (κ := 0) (i := 0) (As := [.ref (ad 24 c9), .int ((clJ9 x nT (sI k) (se (sI k)) (kq (sI k))).1 20 (sI k) 15)]) (rest := []) ⟨hx, hb, hml, hown, hts⟩ (ctX9_addDebt l D y ad (clE9 x nT (sI k) (se (sI k)) (kq (sI k)) (cs (sI k))) R qs nC nT hR c9 ((clJ9 x nT (sI k) (se (sI k)) (kq (sI k))).1 20 (sI k) 15) ns se hb9 hnse hsee) (cwV 2 hts gX9_close_X9_addDebt rfl rfl rfl (by decide +kernel) ⟨Nat.le_of_ble_eq_true rfl, Nat.le_of_ble_eq_true rfl⟩) ((hR 0 (0)).mpr Nat.zero_lt_one) (fun _ _ _ => ⟨_, rfl⟩) rfl hE hK hP hD hS hA rfl hl.1 rfl (Nat.le_of_ble_eq_true rfl) dX9_close_129 ⟨Nat.zero_le _, Nat.zero_le _⟩ (fun x130 H locs h130 hP hD hS => ?_)
            refine lv_aload_n hx hb dX9_close_132 rfl (lv_at hl 2 rfl) ?_
            refine cg_X7_verdict (i := sI k) hx hb hts hin7 hown hK hP ((hR 20 (sI k)).mpr hbk) (by decide +kernel) dX9_close_133 ?_
            exact c_reti hx hb hr hlocks hAe hK hP hD hS rfl dX9_close_136 (by rw [csClose, if_pos bk, if_neg (by simp [c_22, h29]), csCloseK, b9]; simp only []; rw [if_pos c_81, h130]; refine Prod.ext ?_ rfl; show (cAddD _ ns se c9 _).1 20 (sI k) 13 = _; rw [cAddD_v, hE3 13 (by omega)])
          · rw [show (clJ9 x nT (sI k) (se (sI k)) (kq (sI k))).1 24 c9 5 = x.1 24 c9 5 from hj1 24 c9 5 (by simp)] at c_81
            refine lv_aload_n hx hb dX9_close_84 rfl (lv_at hl 2 rfl) ?_
            refine c_callv (ci := 7) (q := (RX7, TX7, 16)) (κ := 20) (i := sI k) (As := []) (rest := []) ⟨hx, hb, hml, hown, hts⟩ (ctX7_forgetVerdict l D y ad (clJ9 x nT (sI k) (se (sI k)) (kq (sI k))) R qs nC nT hR (sI k) hbk) (cwV 0 hts gX9_close_X7_forgetVerdict rfl rfl rfl (by decide +kernel) ⟨Nat.le_of_ble_eq_true rfl, Nat.le_of_ble_eq_true rfl⟩) ((hR 20 (sI k)).mpr hbk) (fun _ _ _ => ⟨_, rfl⟩) rfl hE hK hP hD hS hA rfl hl.1 rfl (Nat.le_of_ble_eq_true rfl) dX9_close_85 ⟨Nat.zero_le _, Nat.zero_le _⟩ (fun x85 H locs h85 hP hD hS => ?_)
            refine lv_bipush (v := (-3)) hx hb dX9_close_88 (by decide) ?_
            exact c_reti hx hb hr hlocks hAe hK hP hD hS rfl dX9_close_90 (by rw [csClose, if_pos bk, if_neg (by simp [c_22, h29]), csCloseK, b9]; simp only []; rw [if_neg c_81, h85])
      · have h29 : 0 < cnt (cWt x (sI k)) (se (sI k)) := by have h8 := cnt_le (cWt x (sI k)) (se (sI k)); exact Nat.not_le.mp (fun q => c_29 (nI_le (b := 0) q (by omega)))
        refine lv_bipush (v := (-4)) hx hb dX9_close_32 (by decide) ?_
        exact c_reti hx hb hr hlocks hAe hK hP hD hS rfl dX9_close_34 (by rw [csClose, if_pos bk, if_pos (by simp [c_22, h29])])
