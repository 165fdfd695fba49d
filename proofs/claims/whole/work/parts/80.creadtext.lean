/-! the landed program: readLine, readText -/
def one9 (b : cS) : Int32 × cS := (1, b)
def rdN (u w : Nat) (x : cS) : Int32 × cS := cbnd (tkF u w x) (fun a => cbnd (tkN u w a) one9)
def rdL (u : Nat) (x : cS) : Int32 × cS := if cIsW u x 0 then rdN u 0 x else if cIsW u x 1 then rdN u 1 x else if cIsW u x 2 then rdN u 2 x else if cIsW u x 3 then cbnd (tkF u 3 x) (fun a => cbnd (tkT u a) one9) else cbnd (tkW u 4 x) (fun a => cbnd (rdS u a) one9)
theorem cbnd_inv {X : Int32 × cS} {f : cS → Int32 × cS} {r : Int32} {x' : cS} (e : (r, x') = cbnd X f) (hr : ¬ r = 0) : ¬ X.1 = 0 ∧ (r, x') = f X.2 := by
  unfold cbnd at e
  split at e
  · exact absurd (Prod.mk.inj e).1 hr
  · rename_i h; exact ⟨h, e⟩
theorem tkT_1 {u : Nat} {x x' : cS} {r : Int32} (h : cRU u x) (e : (r, x') = tkT u x) (hr : ¬ r = 0) : cRU u x' := by
  unfold tkT at e
  split at e
  · rw [(Prod.mk.inj e).2]; exact cAdv_RU (x := cI x 26 0 3 (zI (cIsW u x 6))) h
  · exact absurd (Prod.mk.inj e).1 hr
theorem tkS_1 {u : Nat} {x x' : cS} {r : Int32} (h : cRU u x) (e : (r, x') = tkS u x) (hr : ¬ r = 0) : cRU u x' := by
  unfold tkS at e
  split at e
  · rw [(Prod.mk.inj e).2]; exact cAdv_RU h
  · exact absurd (Prod.mk.inj e).1 hr
theorem rdE_1 {u q : Nat} {x x' : cS} {r : Int32} (h : cRU u x) (e : (r, x') = rdE u q x) (hr : ¬ r = 0) : cRU u x' := by
  obtain ⟨h1, e1⟩ := cbnd_inv e hr
  have g1 := tkW_1 h (show ((tkW u 9 x).1, (tkW u 9 x).2) = _ from rfl) h1
  obtain ⟨h2, e2⟩ := cbnd_inv e1 hr
  have g2 := tkN_1 g1 (show ((tkN u (40 + q) (tkW u 9 x).2).1, (tkN u (40 + q) (tkW u 9 x).2).2) = _ from rfl) h2
  rw [(Prod.mk.inj e2).2]; exact g2
theorem rdD_1 {u q : Nat} {x x' : cS} {r : Int32} (h : cRU u x) (e : (r, x') = rdD u q x) (hr : ¬ r = 0) : cRU u x' := by
  unfold rdD at e
  split at e
  · obtain ⟨h1, e1⟩ := cbnd_inv e hr
    have g1 := tkN_1 (cAdv_RU h) (show ((tkN u (20 + q) (cAdv x u)).1, (tkN u (20 + q) (cAdv x u)).2) = _ from rfl) h1
    obtain ⟨h2, e2⟩ := cbnd_inv e1 hr
    have g2 := tkW_1 g1 rfl h2
    obtain ⟨h3, e3⟩ := cbnd_inv e2 hr
    have g3 := tkN_1 g2 rfl h3
    exact rdE_1 g3 e3 hr
  · exact rdE_1 h e hr
theorem rdS_1 {u : Nat} {x x' : cS} {r : Int32} (h : cRU u x) (e : (r, x') = rdS u x) (hr : ¬ r = 0) : cRU u x' := by
  unfold rdS rdA at e
  split at e
  · exact absurd (Prod.mk.inj e).1 hr
  · rename_i hk
    obtain ⟨-, g0⟩ := tkK_1 h (show ((tkK u x).1, (tkK u x).2) = _ from rfl) hk
    obtain ⟨h1, e1⟩ := cbnd_inv e hr
    have g1 := tkW_1 g0 rfl h1
    obtain ⟨h2, e2⟩ := cbnd_inv e1 hr
    have g2 := tkN_1 g1 rfl h2
    exact rdD_1 (x := rdW _ _) g2 e2 hr
theorem rdN_1 {u w : Nat} {x x' : cS} {r : Int32} (h : cRU u x) (e : (r, x') = rdN u w x) (hr : ¬ r = 0) : cRU u x' := by
  obtain ⟨h1, e1⟩ := cbnd_inv e hr
  have g1 := tkF_1 h rfl h1
  obtain ⟨h2, e2⟩ := cbnd_inv e1 hr
  have g2 := tkN_1 g1 rfl h2
  rw [(Prod.mk.inj e2).2]; exact g2
theorem rdL_1 {u : Nat} {x x' : cS} {r : Int32} (h : cRU u x) (e : (r, x') = rdL u x) (hr : ¬ r = 0) : cRU u x' := by
  unfold rdL at e
  split at e
  · exact rdN_1 h e hr
  · split at e
    · exact rdN_1 h e hr
    · split at e
      · exact rdN_1 h e hr
      · split at e
        · obtain ⟨h1, e1⟩ := cbnd_inv e hr
          have g1 := tkF_1 h rfl h1
          obtain ⟨h2, e2⟩ := cbnd_inv e1 hr
          have g2 := tkT_1 g1 rfl h2
          rw [(Prod.mk.inj e2).2]; exact g2
        · obtain ⟨h1, e1⟩ := cbnd_inv e hr
          have g1 := tkW_1 h rfl h1
          obtain ⟨h2, e2⟩ := cbnd_inv e1 hr
          have g2 := rdS_1 g1 rfl h2
          rw [(Prod.mk.inj e2).2]; exact g2
set_option maxHeartbeats 4000000 in
set_option maxRecDepth 100000 in
/-- LawReader.readLine -/
theorem ctX5_readLine (l : Launch) (D : va_G) (y : Nat → ClassId) (ad : Nat → Nat → Nat) (x : cS) (R : List (Nat × Nat)) (qs : Nat → Nat × Nat) (nC nT : Nat) (hR : cHas R nC nT) (u : Nat) (h : cRU u x) : cMi l yX5_readLine wsX5_readLine ({ frames := 8, cells := 0, slots := 0, locals := 170 }) D y ad x R qs [.ref (ad 3 0)] (fun r x' => (r, x') = rdL u x) := by
  refine cMi_of (cc := cX5_readLine) (maxL := 1) (ret := (some .boolean)) (by decide) rfl (Nat.le_of_ble_eq_true rfl) ?_
  intro p e s m below meth c A ls hat hAe hl
  obtain ⟨hx, hb, hr, hml, hts, hown, hlocks, hK, hP, hD, hA, hE⟩ := hat
  have hown : s.vm.findClass RX5 = some m.cls := hown
  have hin5 : ∀ w ∈ wsX50, w ∈ wsX5_readLine := fun _ h9 => List.mem_cons_of_mem _ (List.mem_append_left _ (List.mem_append_left _ (List.mem_append_right _ h9)))
  have hin8 : ∀ w ∈ wsX80, w ∈ wsX5_readLine := fun _ h9 => List.mem_cons_of_mem _ (List.mem_append_left _ (List.mem_append_right _ h9))
  have hin6 : ∀ w ∈ wsX60, w ∈ wsX5_readLine := fun _ h9 => List.mem_cons_of_mem _ (List.mem_append_right _ h9)
  have hl : lv_has ls 1 [(0, .ref (ad 3 0))] := hl
  have hS : va_S A s.heap s.heap [] := va_S.rf
  refine lv_aload_n hx hb dX5_readLine_0 rfl (lv_at hl 0 rfl) ?_
  refine va_ldcS hx hb hown (show vk_R RX5 60 "age" (qs 0).1 s from (hE.2 0 (by omega)).2) dX5_readLine_1 ?_
  refine c_callip (ci := 5) (q := (RX5, TX5, 10)) (κ := 3) (i := 0) (As := [.ref ((qs 0).1)]) (rest := []) ⟨hx, hb, hml, hown, hts⟩ (ctX5_isWord l D y ad x R qs nC nT hR u 0 h.1 h.2.1 h.2.2 (by omega)) (cwV 1 hts gX5_readLine_X5_isWord rfl rfl rfl (by decide +kernel) ⟨Nat.le_of_ble_eq_true rfl, Nat.le_of_ble_eq_true rfl⟩) ((hR 3 (0)).mpr Nat.zero_lt_one) (fun _ _ _ => ⟨_, rfl⟩) rfl hE hK hP hD hS hA rfl hl.1 rfl (Nat.le_of_ble_eq_true rfl) dX5_readLine_3 ⟨Nat.zero_le _, Nat.zero_le _⟩ (fun H locs hP hD hS => ?_)
  refine lv_if_eq (tgt := 31) hx hb dX5_readLine_6 (by decide) (fun c_6 => ?_) (fun c_6 => ?_)
  · have b0 : cIsW u x 0 = false := (zI_eq _).mp c_6
    refine lv_aload_n hx hb dX5_readLine_31 rfl (lv_at hl 0 rfl) ?_
    refine va_ldcS hx hb hown (show vk_R RX5 73 "pay" (qs 1).1 s from (hE.2 1 (by omega)).2) dX5_readLine_32 ?_
    refine c_callip (ci := 5) (q := (RX5, TX5, 10)) (κ := 3) (i := 0) (As := [.ref ((qs 1).1)]) (rest := []) ⟨hx, hb, hml, hown, hts⟩ (ctX5_isWord l D y ad x R qs nC nT hR u 1 h.1 h.2.1 h.2.2 (by omega)) (cwV 1 hts gX5_readLine_X5_isWord rfl rfl rfl (by decide +kernel) ⟨Nat.le_of_ble_eq_true rfl, Nat.le_of_ble_eq_true rfl⟩) ((hR 3 (0)).mpr Nat.zero_lt_one) (fun _ _ _ => ⟨_, rfl⟩) rfl hE hK hP hD hS hA rfl hl.1 rfl (Nat.le_of_ble_eq_true rfl) dX5_readLine_34 ⟨Nat.zero_le _, Nat.zero_le _⟩ (fun H locs hP hD hS => ?_)
    refine lv_if_eq (tgt := 62) hx hb dX5_readLine_37 (by decide) (fun c_37 => ?_) (fun c_37 => ?_)
    · have b1 : cIsW u x 1 = false := (zI_eq _).mp c_37
      refine lv_aload_n hx hb dX5_readLine_62 rfl (lv_at hl 0 rfl) ?_
      refine va_ldcS hx hb hown (show vk_R RX5 75 "fifth" (qs 2).1 s from (hE.2 2 (by omega)).2) dX5_readLine_63 ?_
      refine c_callip (ci := 5) (q := (RX5, TX5, 10)) (κ := 3) (i := 0) (As := [.ref ((qs 2).1)]) (rest := []) ⟨hx, hb, hml, hown, hts⟩ (ctX5_isWord l D y ad x R qs nC nT hR u 2 h.1 h.2.1 h.2.2 (by omega)) (cwV 1 hts gX5_readLine_X5_isWord rfl rfl rfl (by decide +kernel) ⟨Nat.le_of_ble_eq_true rfl, Nat.le_of_ble_eq_true rfl⟩) ((hR 3 (0)).mpr Nat.zero_lt_one) (fun _ _ _ => ⟨_, rfl⟩) rfl hE hK hP hD hS hA rfl hl.1 rfl (Nat.le_of_ble_eq_true rfl) dX5_readLine_65 ⟨Nat.zero_le _, Nat.zero_le _⟩ (fun H locs hP hD hS => ?_)
      refine lv_if_eq (tgt := 93) hx hb dX5_readLine_68 (by decide) (fun c_68 => ?_) (fun c_68 => ?_)
      · have b2 : cIsW u x 2 = false := (zI_eq _).mp c_68
        refine lv_aload_n hx hb dX5_readLine_93 rfl (lv_at hl 0 rfl) ?_
        refine va_ldcS hx hb hown (show vk_R RX5 77 "tie" (qs 3).1 s from (hE.2 3 (by omega)).2) dX5_readLine_94 ?_
        refine c_callip (ci := 5) (q := (RX5, TX5, 10)) (κ := 3) (i := 0) (As := [.ref ((qs 3).1)]) (rest := []) ⟨hx, hb, hml, hown, hts⟩ (ctX5_isWord l D y ad x R qs nC nT hR u 3 h.1 h.2.1 h.2.2 (by omega)) (cwV 1 hts gX5_readLine_X5_isWord rfl rfl rfl (by decide +kernel) ⟨Nat.le_of_ble_eq_true rfl, Nat.le_of_ble_eq_true rfl⟩) ((hR 3 (0)).mpr Nat.zero_lt_one) (fun _ _ _ => ⟨_, rfl⟩) rfl hE hK hP hD hS hA rfl hl.1 rfl (Nat.le_of_ble_eq_true rfl) dX5_readLine_96 ⟨Nat.zero_le _, Nat.zero_le _⟩ (fun H locs hP hD hS => ?_)
        refine lv_if_eq (tgt := 123) hx hb dX5_readLine_99 (by decide) (fun c_99 => ?_) (fun c_99 => ?_)
        · have b3 : cIsW u x 3 = false := (zI_eq _).mp c_99
          refine lv_aload_n hx hb dX5_readLine_123 rfl (lv_at hl 0 rfl) ?_
          refine va_ldcS hx hb hown (show vk_R RX5 82 "suit" (qs 4).1 s from (hE.2 4 (by omega)).2) dX5_readLine_124 ?_
          refine c_calli (ci := 5) (q := (RX5, TX5, 10)) (κ := 3) (i := 0) (As := [.ref ((qs 4).1)]) (rest := []) ⟨hx, hb, hml, hown, hts⟩ (ctX5_takeWord l D y ad x R qs nC nT hR u 4 h (by omega)) (cwV 1 hts gX5_readLine_X5_takeWord rfl rfl rfl (by decide +kernel) ⟨Nat.le_of_ble_eq_true rfl, Nat.le_of_ble_eq_true rfl⟩) ((hR 3 (0)).mpr Nat.zero_lt_one) (fun _ _ _ => ⟨_, rfl⟩) rfl hE hK hP hD hS hA rfl hl.1 rfl (Nat.le_of_ble_eq_true rfl) dX5_readLine_126 ⟨Nat.zero_le _, Nat.zero_le _⟩ (fun r1 x1 H locs h1 hP hD hS => ?_)
          refine lv_if_eq (tgt := 143) hx hb dX5_readLine_129 (by decide) (fun c_129 => ?_) (fun c_129 => ?_)
          · refine lv_iconst (v := 0) hx hb dX5_readLine_143 (by decide) ?_
            exact c_reti hx hb hr hlocks hAe hK hP hD hS (by first | rfl | decide) dX5_readLine_144 (by rw [rdL, if_neg (by rw [b0]; decide), if_neg (by rw [b1]; decide), if_neg (by rw [b2]; decide), if_neg (by rw [b3]; decide), cbnd_0 h1 c_129])
          · have g1 := tkW_1 h h1 c_129
            refine lv_aload_n hx hb dX5_readLine_132 rfl (lv_at hl 0 rfl) ?_
            refine c_calli (ci := 5) (q := (RX5, TX5, 10)) (κ := 3) (i := 0) (As := []) (rest := []) ⟨hx, hb, hml, hown, hts⟩ (ctX5_readSuit l D y ad x1 R qs nC nT hR u g1) (cwV 0 hts gX5_readLine_X5_readSuit rfl rfl rfl (by decide +kernel) ⟨Nat.le_of_ble_eq_true rfl, Nat.le_of_ble_eq_true rfl⟩) ((hR 3 (0)).mpr Nat.zero_lt_one) (fun _ _ _ => ⟨_, rfl⟩) rfl hE hK hP hD hS hA rfl hl.1 rfl (Nat.le_of_ble_eq_true rfl) dX5_readLine_133 ⟨Nat.zero_le _, Nat.zero_le _⟩ (fun r2 x2 H locs h2 hP hD hS => ?_)
            refine lv_if_eq (tgt := 143) hx hb dX5_readLine_136 (by decide) (fun c_136 => ?_) (fun c_136 => ?_)
            · refine lv_iconst (v := 0) hx hb dX5_readLine_143 (by decide) ?_
              exact c_reti hx hb hr hlocks hAe hK hP hD hS (by first | rfl | decide) dX5_readLine_144 (by rw [rdL, if_neg (by rw [b0]; decide), if_neg (by rw [b1]; decide), if_neg (by rw [b2]; decide), if_neg (by rw [b3]; decide), cbnd_1 h1 c_129, cbnd_0 h2 c_136])
            · refine lv_iconst (v := 1) hx hb dX5_readLine_139 (by decide) ?_
              refine lv_goto (tgt := 144) hx hb dX5_readLine_140 (by decide) ?_
              exact c_reti hx hb hr hlocks hAe hK hP hD hS (by first | rfl | decide) dX5_readLine_144 (by rw [rdL, if_neg (by rw [b0]; decide), if_neg (by rw [b1]; decide), if_neg (by rw [b2]; decide), if_neg (by rw [b3]; decide), cbnd_1 h1 c_129, cbnd_1 h2 c_136, one9])
        · have b3 : cIsW u x 3 = true := (zI_ne _).mp c_99
          refine lv_aload_n hx hb dX5_readLine_102 rfl (lv_at hl 0 rfl) ?_
          refine lv_iconst (v := 3) hx hb dX5_readLine_103 (by decide) ?_
          refine c_calli (ci := 5) (q := (RX5, TX5, 10)) (κ := 3) (i := 0) (As := [.int 3]) (rest := []) ⟨hx, hb, hml, hown, hts⟩ (ctX5_takeFirstWord l D y ad x R qs nC nT hR u 3 3 h rfl (by omega)) (cwV 1 hts gX5_readLine_X5_takeFirstWord rfl rfl rfl (by decide +kernel) ⟨Nat.le_of_ble_eq_true rfl, Nat.le_of_ble_eq_true rfl⟩) ((hR 3 (0)).mpr Nat.zero_lt_one) (fun _ _ _ => ⟨_, rfl⟩) rfl hE hK hP hD hS hA rfl hl.1 rfl (Nat.le_of_ble_eq_true rfl) dX5_readLine_104 ⟨Nat.zero_le _, Nat.zero_le _⟩ (fun r1 x1 H locs h1 hP hD hS => ?_)
          refine lv_if_eq (tgt := 121) hx hb dX5_readLine_107 (by decide) (fun c_107 => ?_) (fun c_107 => ?_)
          · refine lv_iconst (v := 0) hx hb dX5_readLine_121 (by decide) ?_
            exact c_reti hx hb hr hlocks hAe hK hP hD hS (by first | rfl | decide) dX5_readLine_122 (by rw [rdL, if_neg (by rw [b0]; decide), if_neg (by rw [b1]; decide), if_neg (by rw [b2]; decide), if_pos b3, cbnd_0 h1 c_107])
          · have g1 := tkF_1 h h1 c_107
            refine lv_aload_n hx hb dX5_readLine_110 rfl (lv_at hl 0 rfl) ?_
            refine c_calli (ci := 5) (q := (RX5, TX5, 10)) (κ := 3) (i := 0) (As := []) (rest := []) ⟨hx, hb, hml, hown, hts⟩ (ctX5_takeTie l D y ad x1 R qs nC nT hR u g1) (cwV 0 hts gX5_readLine_X5_takeTie rfl rfl rfl (by decide +kernel) ⟨Nat.le_of_ble_eq_true rfl, Nat.le_of_ble_eq_true rfl⟩) ((hR 3 (0)).mpr Nat.zero_lt_one) (fun _ _ _ => ⟨_, rfl⟩) rfl hE hK hP hD hS hA rfl hl.1 rfl (Nat.le_of_ble_eq_true rfl) dX5_readLine_111 ⟨Nat.zero_le _, Nat.zero_le _⟩ (fun r2 x2 H locs h2 hP hD hS => ?_)
            refine lv_if_eq (tgt := 121) hx hb dX5_readLine_114 (by decide) (fun c_114 => ?_) (fun c_114 => ?_)
            · refine lv_iconst (v := 0) hx hb dX5_readLine_121 (by decide) ?_
              exact c_reti hx hb hr hlocks hAe hK hP hD hS (by first | rfl | decide) dX5_readLine_122 (by rw [rdL, if_neg (by rw [b0]; decide), if_neg (by rw [b1]; decide), if_neg (by rw [b2]; decide), if_pos b3, cbnd_1 h1 c_107, cbnd_0 h2 c_114])
            · refine lv_iconst (v := 1) hx hb dX5_readLine_117 (by decide) ?_
              refine lv_goto (tgt := 122) hx hb dX5_readLine_118 (by decide) ?_
              exact c_reti hx hb hr hlocks hAe hK hP hD hS (by first | rfl | decide) dX5_readLine_122 (by rw [rdL, if_neg (by rw [b0]; decide), if_neg (by rw [b1]; decide), if_neg (by rw [b2]; decide), if_pos b3, cbnd_1 h1 c_107, cbnd_1 h2 c_114, one9])
      · have b2 : cIsW u x 2 = true := (zI_ne _).mp c_68
        refine lv_aload_n hx hb dX5_readLine_71 rfl (lv_at hl 0 rfl) ?_
        refine lv_iconst (v := 2) hx hb dX5_readLine_72 (by decide) ?_
        refine c_calli (ci := 5) (q := (RX5, TX5, 10)) (κ := 3) (i := 0) (As := [.int 2]) (rest := []) ⟨hx, hb, hml, hown, hts⟩ (ctX5_takeFirstWord l D y ad x R qs nC nT hR u 2 2 h rfl (by omega)) (cwV 1 hts gX5_readLine_X5_takeFirstWord rfl rfl rfl (by decide +kernel) ⟨Nat.le_of_ble_eq_true rfl, Nat.le_of_ble_eq_true rfl⟩) ((hR 3 (0)).mpr Nat.zero_lt_one) (fun _ _ _ => ⟨_, rfl⟩) rfl hE hK hP hD hS hA rfl hl.1 rfl (Nat.le_of_ble_eq_true rfl) dX5_readLine_73 ⟨Nat.zero_le _, Nat.zero_le _⟩ (fun r1 x1 H locs h1 hP hD hS => ?_)
        refine lv_if_eq (tgt := 91) hx hb dX5_readLine_76 (by decide) (fun c_76 => ?_) (fun c_76 => ?_)
        · refine lv_iconst (v := 0) hx hb dX5_readLine_91 (by decide) ?_
          exact c_reti hx hb hr hlocks hAe hK hP hD hS (by first | rfl | decide) dX5_readLine_92 (by rw [rdL, if_neg (by rw [b0]; decide), if_neg (by rw [b1]; decide), if_pos b2, rdN, cbnd_0 h1 c_76])
        · have g1 := tkF_1 h h1 c_76
          refine lv_aload_n hx hb dX5_readLine_79 rfl (lv_at hl 0 rfl) ?_
          refine lv_iconst (v := 2) hx hb dX5_readLine_80 (by decide) ?_
          refine c_calli (ci := 5) (q := (RX5, TX5, 10)) (κ := 3) (i := 0) (As := [.int 2]) (rest := []) ⟨hx, hb, hml, hown, hts⟩ (ctX5_takeNumber l D y ad x1 R qs nC nT hR u 2 2 g1 rfl (by omega)) (cwV 1 hts gX5_readLine_X5_takeNumber rfl rfl rfl (by decide +kernel) ⟨Nat.le_of_ble_eq_true rfl, Nat.le_of_ble_eq_true rfl⟩) ((hR 3 (0)).mpr Nat.zero_lt_one) (fun _ _ _ => ⟨_, rfl⟩) rfl hE hK hP hD hS hA rfl hl.1 rfl (Nat.le_of_ble_eq_true rfl) dX5_readLine_81 ⟨Nat.zero_le _, Nat.zero_le _⟩ (fun r2 x2 H locs h2 hP hD hS => ?_)
          refine lv_if_eq (tgt := 91) hx hb dX5_readLine_84 (by decide) (fun c_84 => ?_) (fun c_84 => ?_)
          · refine lv_iconst (v := 0) hx hb dX5_readLine_91 (by decide) ?_
            exact c_reti hx hb hr hlocks hAe hK hP hD hS (by first | rfl | decide) dX5_readLine_92 (by rw [rdL, if_neg (by rw [b0]; decide), if_neg (by rw [b1]; decide), if_pos b2, rdN, cbnd_1 h1 c_76, cbnd_0 h2 c_84])
          · refine lv_iconst (v := 1) hx hb dX5_readLine_87 (by decide) ?_
            refine lv_goto (tgt := 92) hx hb dX5_readLine_88 (by decide) ?_
            exact c_reti hx hb hr hlocks hAe hK hP hD hS (by first | rfl | decide) dX5_readLine_92 (by rw [rdL, if_neg (by rw [b0]; decide), if_neg (by rw [b1]; decide), if_pos b2, rdN, cbnd_1 h1 c_76, cbnd_1 h2 c_84, one9])
    · have b1 : cIsW u x 1 = true := (zI_ne _).mp c_37
      refine lv_aload_n hx hb dX5_readLine_40 rfl (lv_at hl 0 rfl) ?_
      refine lv_iconst (v := 1) hx hb dX5_readLine_41 (by decide) ?_
      refine c_calli (ci := 5) (q := (RX5, TX5, 10)) (κ := 3) (i := 0) (As := [.int 1]) (rest := []) ⟨hx, hb, hml, hown, hts⟩ (ctX5_takeFirstWord l D y ad x R qs nC nT hR u 1 1 h rfl (by omega)) (cwV 1 hts gX5_readLine_X5_takeFirstWord rfl rfl rfl (by decide +kernel) ⟨Nat.le_of_ble_eq_true rfl, Nat.le_of_ble_eq_true rfl⟩) ((hR 3 (0)).mpr Nat.zero_lt_one) (fun _ _ _ => ⟨_, rfl⟩) rfl hE hK hP hD hS hA rfl hl.1 rfl (Nat.le_of_ble_eq_true rfl) dX5_readLine_42 ⟨Nat.zero_le _, Nat.zero_le _⟩ (fun r1 x1 H locs h1 hP hD hS => ?_)
      refine lv_if_eq (tgt := 60) hx hb dX5_readLine_45 (by decide) (fun c_45 => ?_) (fun c_45 => ?_)
      · refine lv_iconst (v := 0) hx hb dX5_readLine_60 (by decide) ?_
        exact c_reti hx hb hr hlocks hAe hK hP hD hS (by first | rfl | decide) dX5_readLine_61 (by rw [rdL, if_neg (by rw [b0]; decide), if_pos b1, rdN, cbnd_0 h1 c_45])
      · have g1 := tkF_1 h h1 c_45
        refine lv_aload_n hx hb dX5_readLine_48 rfl (lv_at hl 0 rfl) ?_
        refine lv_iconst (v := 1) hx hb dX5_readLine_49 (by decide) ?_
        refine c_calli (ci := 5) (q := (RX5, TX5, 10)) (κ := 3) (i := 0) (As := [.int 1]) (rest := []) ⟨hx, hb, hml, hown, hts⟩ (ctX5_takeNumber l D y ad x1 R qs nC nT hR u 1 1 g1 rfl (by omega)) (cwV 1 hts gX5_readLine_X5_takeNumber rfl rfl rfl (by decide +kernel) ⟨Nat.le_of_ble_eq_true rfl, Nat.le_of_ble_eq_true rfl⟩) ((hR 3 (0)).mpr Nat.zero_lt_one) (fun _ _ _ => ⟨_, rfl⟩) rfl hE hK hP hD hS hA rfl hl.1 rfl (Nat.le_of_ble_eq_true rfl) dX5_readLine_50 ⟨Nat.zero_le _, Nat.zero_le _⟩ (fun r2 x2 H locs h2 hP hD hS => ?_)
        refine lv_if_eq (tgt := 60) hx hb dX5_readLine_53 (by decide) (fun c_53 => ?_) (fun c_53 => ?_)
        · refine lv_iconst (v := 0) hx hb dX5_readLine_60 (by decide) ?_
          exact c_reti hx hb hr hlocks hAe hK hP hD hS (by first | rfl | decide) dX5_readLine_61 (by rw [rdL, if_neg (by rw [b0]; decide), if_pos b1, rdN, cbnd_1 h1 c_45, cbnd_0 h2 c_53])
        · refine lv_iconst (v := 1) hx hb dX5_readLine_56 (by decide) ?_
          refine lv_goto (tgt := 61) hx hb dX5_readLine_57 (by decide) ?_
          exact c_reti hx hb hr hlocks hAe hK hP hD hS (by first | rfl | decide) dX5_readLine_61 (by rw [rdL, if_neg (by rw [b0]; decide), if_pos b1, rdN, cbnd_1 h1 c_45, cbnd_1 h2 c_53, one9])
  · have b0 : cIsW u x 0 = true := (zI_ne _).mp c_6
    refine lv_aload_n hx hb dX5_readLine_9 rfl (lv_at hl 0 rfl) ?_
    refine lv_iconst (v := 0) hx hb dX5_readLine_10 (by decide) ?_
    refine c_calli (ci := 5) (q := (RX5, TX5, 10)) (κ := 3) (i := 0) (As := [.int 0]) (rest := []) ⟨hx, hb, hml, hown, hts⟩ (ctX5_takeFirstWord l D y ad x R qs nC nT hR u 0 0 h rfl (by omega)) (cwV 1 hts gX5_readLine_X5_takeFirstWord rfl rfl rfl (by decide +kernel) ⟨Nat.le_of_ble_eq_true rfl, Nat.le_of_ble_eq_true rfl⟩) ((hR 3 (0)).mpr Nat.zero_lt_one) (fun _ _ _ => ⟨_, rfl⟩) rfl hE hK hP hD hS hA rfl hl.1 rfl (Nat.le_of_ble_eq_true rfl) dX5_readLine_11 ⟨Nat.zero_le _, Nat.zero_le _⟩ (fun r1 x1 H locs h1 hP hD hS => ?_)
    refine lv_if_eq (tgt := 29) hx hb dX5_readLine_14 (by decide) (fun c_14 => ?_) (fun c_14 => ?_)
    · refine lv_iconst (v := 0) hx hb dX5_readLine_29 (by decide) ?_
      exact c_reti hx hb hr hlocks hAe hK hP hD hS (by first | rfl | decide) dX5_readLine_30 (by rw [rdL, if_pos b0, rdN, cbnd_0 h1 c_14])
    · have g1 := tkF_1 h h1 c_14
      refine lv_aload_n hx hb dX5_readLine_17 rfl (lv_at hl 0 rfl) ?_
      refine lv_iconst (v := 0) hx hb dX5_readLine_18 (by decide) ?_
      refine c_calli (ci := 5) (q := (RX5, TX5, 10)) (κ := 3) (i := 0) (As := [.int 0]) (rest := []) ⟨hx, hb, hml, hown, hts⟩ (ctX5_takeNumber l D y ad x1 R qs nC nT hR u 0 0 g1 rfl (by omega)) (cwV 1 hts gX5_readLine_X5_takeNumber rfl rfl rfl (by decide +kernel) ⟨Nat.le_of_ble_eq_true rfl, Nat.le_of_ble_eq_true rfl⟩) ((hR 3 (0)).mpr Nat.zero_lt_one) (fun _ _ _ => ⟨_, rfl⟩) rfl hE hK hP hD hS hA rfl hl.1 rfl (Nat.le_of_ble_eq_true rfl) dX5_readLine_19 ⟨Nat.zero_le _, Nat.zero_le _⟩ (fun r2 x2 H locs h2 hP hD hS => ?_)
      refine lv_if_eq (tgt := 29) hx hb dX5_readLine_22 (by decide) (fun c_22 => ?_) (fun c_22 => ?_)
      · refine lv_iconst (v := 0) hx hb dX5_readLine_29 (by decide) ?_
        exact c_reti hx hb hr hlocks hAe hK hP hD hS (by first | rfl | decide) dX5_readLine_30 (by rw [rdL, if_pos b0, rdN, cbnd_1 h1 c_14, cbnd_0 h2 c_22])
      · refine lv_iconst (v := 1) hx hb dX5_readLine_25 (by decide) ?_
        refine lv_goto (tgt := 30) hx hb dX5_readLine_26 (by decide) ?_
        exact c_reti hx hb hr hlocks hAe hK hP hD hS (by first | rfl | decide) dX5_readLine_30 (by rw [rdL, if_pos b0, rdN, cbnd_1 h1 c_14, cbnd_1 h2 c_22, one9])
def rdX (u : Nat) : Nat → cS → Int32 × cS
  | 0, x => (1, x)
  | f + 1, x => if x.1 3 0 6 = 0 then (1, x) else cbnd (rdL u x) (fun a => cbnd (tkS u a) (rdX u f))
def rdT (u : Nat) (x : cS) : Int32 × cS := rdX u 1001 (cAdv (cStart x) u)
theorem cFgK_k (x : cS) (t : Nat) : ∀ k, (∀ a b c, a ≠ 26 → (cFgK x t k).1 a b c = x.1 a b c) ∧ (cFgK x t k).2 = x.2
  | 0 => ⟨fun a b c h => by simp [cFgK, cFg0, cI_r, cF_r, h], rfl⟩
  | k + 1 => by
    obtain ⟨h1, h2⟩ := cFgK_k x t k
    exact ⟨fun a b c h => by rw [cFgK]; simp only [cI_r, h, false_and, if_false]; exact h1 a b c h, h2⟩
theorem cForget_k (x : cS) (t : Nat) : (∀ a b c, a ≠ 26 → (cForget x t).1 a b c = x.1 a b c) ∧ (cForget x t).2 = x.2 := by
  obtain ⟨h1, h2⟩ := cFgK_k x t 6
  refine ⟨fun a b c h => ?_, ?_⟩
  · rw [cForget]; generalize cFgK x t 6 = w at *; simp only [cI_r, h, false_and, if_false]; exact h1 a b c h
  · rw [cForget, cI_l]; exact h2
theorem cStart_u (x : cS) : (cStart x).1 1 0 1 = x.1 1 0 1 ∧ (cStart x).1 3 0 8 = 0 := by
  have h1 := (cForget_k x 0).1 1 0 1 (by decide)
  unfold cStart
  generalize cForget x 0 = w at *
  exact ⟨by simp [cI_r, cF_r, h1], by simp [cI_r]⟩
set_option maxHeartbeats 4000000 in
set_option maxRecDepth 100000 in
/-- LawReader.readText -/
theorem ctX5_readText (l : Launch) (D : va_G) (y : Nat → ClassId) (ad : Nat → Nat → Nat) (x : cS) (R : List (Nat × Nat)) (qs : Nat → Nat × Nat) (nC nT : Nat) (hR : cHas R nC nT) (u : Nat) (hu : x.1 1 0 1 = nI u) (hu1 : u ≤ 1000) : cMi l yX5_readText wsX5_readText ({ frames := 9, cells := 0, slots := 0, locals := 190 }) D y ad x R qs [.ref (ad 3 0)] (fun r x' => (r, x') = rdT u x) := by
  refine cMi_of (cc := cX5_readText) (maxL := 3) (ret := (some .boolean)) (by decide) rfl (Nat.le_of_ble_eq_true rfl) ?_
  intro p e s m below meth c A ls hat hAe hl
  obtain ⟨hx, hb, hr, hml, hts, hown, hlocks, hK, hP, hD, hA, hE⟩ := hat
  have hown : s.vm.findClass RX5 = some m.cls := hown
  have hin5 : ∀ w ∈ wsX50, w ∈ wsX5_readText := fun _ h9 => List.mem_cons_of_mem _ (List.mem_append_left _ (List.mem_append_left _ (List.mem_append_right _ h9)))
  have hin6 : ∀ w ∈ wsX60, w ∈ wsX5_readText := fun _ h9 => List.mem_cons_of_mem _ (List.mem_append_left _ (List.mem_append_right _ h9))
  have hin8 : ∀ w ∈ wsX80, w ∈ wsX5_readText := fun _ h9 => List.mem_cons_of_mem _ (List.mem_append_right _ h9)
  have hl : lv_has ls 3 [(0, .ref (ad 3 0))] := hl
  have hS : va_S A s.heap s.heap [] := va_S.rf
  refine lv_aload_n hx hb dX5_readText_0 rfl (lv_at hl 0 rfl) ?_
  refine c_callv (ci := 5) (q := (RX5, TX5, 10)) (κ := 3) (i := 0) (As := []) (rest := []) ⟨hx, hb, hml, hown, hts⟩ (ctX5_startAnew l D y ad x R qs nC nT hR) (cwV 0 hts gX5_readText_X5_startAnew rfl rfl rfl (by decide +kernel) ⟨Nat.le_of_ble_eq_true rfl, Nat.le_of_ble_eq_true rfl⟩) ((hR 3 (0)).mpr Nat.zero_lt_one) (fun _ _ _ => ⟨_, rfl⟩) rfl hE hK hP hD hS hA rfl hl.1 rfl (Nat.le_of_ble_eq_true rfl) dX5_readText_1 ⟨Nat.zero_le _, Nat.zero_le _⟩ (fun xs H locs hs9 hP hD hS => ?_)
  have hxs1 : xs.1 1 0 1 = nI u := by rw [hs9, (cStart_u x).1]; exact hu
  have hxs2 : xs.1 3 0 8 = nI 0 := by rw [hs9, (cStart_u x).2]; rfl
  refine lv_aload_n hx hb dX5_readText_4 rfl (lv_at hl 0 rfl) ?_
  refine c_callv (ci := 5) (q := (RX5, TX5, 10)) (κ := 3) (i := 0) (As := []) (rest := []) ⟨hx, hb, hml, hown, hts⟩ (ctX5_advance l D y ad xs R qs nC nT hR u 0 hxs1 hu1 hxs2 (by omega)) (cwV 0 hts gX5_readText_X5_advance rfl rfl rfl (by decide +kernel) ⟨Nat.le_of_ble_eq_true rfl, Nat.le_of_ble_eq_true rfl⟩) ((hR 3 (0)).mpr Nat.zero_lt_one) (fun _ _ _ => ⟨_, rfl⟩) rfl hE hK hP hD hS hA rfl hl.1 rfl (Nat.le_of_ble_eq_true rfl) dX5_readText_5 ⟨Nat.zero_le _, Nat.zero_le _⟩ (fun xa H locs ha9 hP hD hS => ?_)
  have hra : cRU u xa := by rw [ha9]; exact cAdv_RU' hxs1 hu1 (by rw [hxs2]; decide)
  refine lv_iconst (v := 1) hx hb dX5_readText_8 (by decide) ?_
  refine lv_istore_n (lv' := [(1, .int 1), (0, .ref (ad 3 0))]) hx hb dX5_readText_9 rfl hl (by decide) rfl (fun ls hl => ?_)
  refine lv_iconst (v := 0) hx hb dX5_readText_10 (by decide) ?_
  refine lv_istore_n (lv' := [(2, .int 0), (1, .int 1), (0, .ref (ad 3 0))]) hx hb dX5_readText_11 rfl hl (by decide) rfl (fun ls hl => ?_)
  have lp_12 : ∀ (n_12 : Nat) (j : Nat) (w : cS) (sd : Bool) (x1 : Int32) (x2 : Int32), (j ≤ 1001) → (1001 + 1 ≤ j + n_12) → (x2 = nI j) → (x1 = zI sd) → (sd = true → cRU u w ∧ rdT u x = rdX u (1001 - j) w) → (sd = false → rdT u x = (0, w)) → ∀ (H : Heap) (locs : List Loc), va_P D vwCl (cW ad y w R) H → va_D A (cW ad y w R) → va_S A s.heap H locs → ∀ (ls : Array Slot), lv_has ls 3 [(0, .ref (ad 3 0)), (1, .int x1), (2, .int x2)] → W p l e (headSpec wsX5_readText ({ frames := 9, cells := 0, slots := 0, locals := 190 })).room s m ([.ref (ad 3 0)] : List Value).toArray below meth c H locs 0 0 (MQ below (va_Qi (fun r x' => (r, x') = rdT u x) (cEnd D y ad R s.heap.size) A) ([.ref (ad 3 0)] : List Value).toArray s 0 0 A) (F0 m 12 ls []) := by
    intro n_12
    induction n_12 with
    | zero =>
      intro j w sd x1 x2 hj hf ex2 ex1 hsd hnd
      exact absurd hf (by omega)
    | succ n_12 ih_12 =>
      intro j w sd x1 x2 hj hf ex2 ex1 hsd hnd H locs hP hD hS ls hl
      refine lv_iload_n hx hb dX5_readText_12 rfl (lv_at hl 2 rfl) ?_
      refine lv_sipush (v := 1000) hx hb dX5_readText_13 (by decide) ?_
      refine lv_icmp_gt (tgt := 56) hx hb dX5_readText_16 (by decide) (fun c_16 => ?_) (fun c_16 => ?_)
      · have hj1 : j = 1001 := by rw [ex2] at c_16; have := (nI_ltI (a := 1000) (by omega) (by omega)).mp c_16; omega
        refine lv_iload_n hx hb dX5_readText_56 rfl (lv_at hl 1 rfl) ?_
        exact c_reti hx hb hr hlocks hAe hK hP hD hS (by rw [ex1]; exact zI_nar _) dX5_readText_57 (by cases sd with | false => rw [hnd rfl, ex1]; rfl | true => rw [(hsd rfl).2, hj1, ex1]; rfl)
      · have hj1 : j < 1001 := by rw [ex2] at c_16; exact Nat.lt_succ_of_le (Nat.not_lt.mp (fun q9 => c_16 ((nI_ltI (a := 1000) (by omega) (by omega)).mpr q9)))
        refine lv_iload_n hx hb dX5_readText_19 rfl (lv_at hl 1 rfl) ?_
        refine lv_if_eq (tgt := 56) hx hb dX5_readText_20 (by decide) (fun c_20 => ?_) (fun c_20 => ?_)
        · have h20 : sd = false := (zI_eq _).mp (by rw [← ex1]; exact c_20)
          refine lv_iload_n hx hb dX5_readText_56 rfl (lv_at hl 1 rfl) ?_
          exact c_reti hx hb hr hlocks hAe hK hP hD hS (by rw [ex1]; exact zI_nar _) dX5_readText_57 (by rw [hnd h20, ex1, h20]; rfl)
        · have h20 : sd = true := (zI_ne _).mp (by rw [← ex1]; exact c_20)
          refine lv_aload_n hx hb dX5_readText_23 rfl (lv_at hl 0 rfl) ?_
          refine cg_X5_token (i := 0) hx hb hts hin5 hown hK hP ((hR 3 (0)).mpr Nat.zero_lt_one) (by decide +kernel) dX5_readText_24 ?_
          refine lv_if_eq (tgt := 56) hx hb dX5_readText_27 (by decide) (fun c_27 => ?_) (fun c_27 => ?_)
          · refine lv_iload_n hx hb dX5_readText_56 rfl (lv_at hl 1 rfl) ?_
            exact c_reti hx hb hr hlocks hAe hK hP hD hS (by rw [ex1]; exact zI_nar _) dX5_readText_57 (by rw [(hsd h20).2, show 1001 - j = 1001 - (j + 1) + 1 by omega, rdX, if_pos c_27, ex1, h20]; rfl)
          · have hst : rdT u x = cbnd (rdL u w) (fun a => cbnd (tkS u a) (rdX u (1001 - (j + 1)))) := by rw [(hsd h20).2, show 1001 - j = 1001 - (j + 1) + 1 by omega, rdX, if_neg c_27]
            refine lv_aload_n hx hb dX5_readText_30 rfl (lv_at hl 0 rfl) ?_
            refine c_calli (ci := 5) (q := (RX5, TX5, 10)) (κ := 3) (i := 0) (As := []) (rest := []) ⟨hx, hb, hml, hown, hts⟩ (ctX5_readLine l D y ad w R qs nC nT hR u (hsd h20).1) (cwV 0 hts gX5_readText_X5_readLine rfl rfl rfl (by decide +kernel) ⟨Nat.le_of_ble_eq_true rfl, Nat.le_of_ble_eq_true rfl⟩) ((hR 3 (0)).mpr Nat.zero_lt_one) (fun _ _ _ => ⟨_, rfl⟩) rfl hE hK hP hD hS hA rfl hl.1 rfl (Nat.le_of_ble_eq_true rfl) dX5_readText_31 ⟨Nat.zero_le _, Nat.zero_le _⟩ (fun r1 w1 H locs h1 hP hD hS => ?_)
            refine lv_if_eq (tgt := 48) hx hb dX5_readText_34 (by decide) (fun c_34 => ?_) (fun c_34 => ?_)
            · refine lv_iconst (v := 0) hx hb dX5_readText_48 (by decide) ?_
              refine lv_istore_n (lv' := [(1, .int 0), (0, .ref (ad 3 0)), (2, .int x2)]) hx hb dX5_readText_49 rfl hl (by decide) rfl (fun ls hl => ?_)
              obtain ⟨x2_1, ex2_1⟩ : ∃ z : Int32, z = x2 + 1 := ⟨_, rfl⟩
              refine lv_iinc (v := x2_1) (lv' := [(2, .int x2_1), (1, .int 0), (0, .ref (ad 3 0))]) hx hb dX5_readText_50 hl (k := 2) rfl (by rw [ex2_1]; rfl) (by decide) rfl (fun ls hl => ?_)
              refine lv_goto (tgt := 12) hx hb dX5_readText_53 (by decide) ?_
              exact ih_12 (j + 1) w1 false _ _ (by omega) (by omega) (by rw [ex2_1, ex2]; exact nI_1 _) rfl (fun q9 => Bool.noConfusion q9) (fun _ => by rw [hst, cbnd_0 h1 c_34]) _ _ hP hD hS _ (lv_sub hl [2, 1, 0] rfl)
            · have g1 := rdL_1 (hsd h20).1 h1 c_34
              refine lv_aload_n hx hb dX5_readText_37 rfl (lv_at hl 0 rfl) ?_
              refine c_calli (ci := 5) (q := (RX5, TX5, 10)) (κ := 3) (i := 0) (As := []) (rest := []) ⟨hx, hb, hml, hown, hts⟩ (ctX5_takeSemicolon l D y ad w1 R qs nC nT hR u g1) (cwV 0 hts gX5_readText_X5_takeSemicolon rfl rfl rfl (by decide +kernel) ⟨Nat.le_of_ble_eq_true rfl, Nat.le_of_ble_eq_true rfl⟩) ((hR 3 (0)).mpr Nat.zero_lt_one) (fun _ _ _ => ⟨_, rfl⟩) rfl hE hK hP hD hS hA rfl hl.1 rfl (Nat.le_of_ble_eq_true rfl) dX5_readText_38 ⟨Nat.zero_le _, Nat.zero_le _⟩ (fun r2 w2 H locs h2 hP hD hS => ?_)
              refine lv_if_eq (tgt := 48) hx hb dX5_readText_41 (by decide) (fun c_41 => ?_) (fun c_41 => ?_)
              · refine lv_iconst (v := 0) hx hb dX5_readText_48 (by decide) ?_
                refine lv_istore_n (lv' := [(1, .int 0), (0, .ref (ad 3 0)), (2, .int x2)]) hx hb dX5_readText_49 rfl hl (by decide) rfl (fun ls hl => ?_)
                obtain ⟨x2_2, ex2_2⟩ : ∃ z : Int32, z = x2 + 1 := ⟨_, rfl⟩
                refine lv_iinc (v := x2_2) (lv' := [(2, .int x2_2), (1, .int 0), (0, .ref (ad 3 0))]) hx hb dX5_readText_50 hl (k := 2) rfl (by rw [ex2_2]; rfl) (by decide) rfl (fun ls hl => ?_)
                refine lv_goto (tgt := 12) hx hb dX5_readText_53 (by decide) ?_
                exact ih_12 (j + 1) w2 false _ _ (by omega) (by omega) (by rw [ex2_2, ex2]; exact nI_1 _) rfl (fun q9 => Bool.noConfusion q9) (fun _ => by rw [hst, cbnd_1 h1 c_34, cbnd_0 h2 c_41]) _ _ hP hD hS _ (lv_sub hl [2, 1, 0] rfl)
              · refine lv_iconst (v := 1) hx hb dX5_readText_44 (by decide) ?_
                refine lv_goto (tgt := 49) hx hb dX5_readText_45 (by decide) ?_
                refine lv_istore_n (lv' := [(1, .int 1), (0, .ref (ad 3 0)), (2, .int x2)]) hx hb dX5_readText_49 rfl hl (by decide) rfl (fun ls hl => ?_)
                obtain ⟨x2_3, ex2_3⟩ : ∃ z : Int32, z = x2 + 1 := ⟨_, rfl⟩
                refine lv_iinc (v := x2_3) (lv' := [(2, .int x2_3), (1, .int 1), (0, .ref (ad 3 0))]) hx hb dX5_readText_50 hl (k := 2) rfl (by rw [ex2_3]; rfl) (by decide) rfl (fun ls hl => ?_)
                refine lv_goto (tgt := 12) hx hb dX5_readText_53 (by decide) ?_
                exact ih_12 (j + 1) w2 true _ _ (by omega) (by omega) (by rw [ex2_3, ex2]; exact nI_1 _) rfl (fun _ => ⟨tkS_1 g1 h2 c_41, by rw [hst, cbnd_1 h1 c_34, cbnd_1 h2 c_41]⟩) (fun q9 => Bool.noConfusion q9) _ _ hP hD hS _ (lv_sub hl [2, 1, 0] rfl)
  exact lp_12 1002 0 _ true _ _ (Nat.zero_le _) (by omega) rfl rfl (fun _ => ⟨hra, by rw [ha9, hs9]; rfl⟩) (fun q9 => Bool.noConfusion q9) _ _ hP hD hS _ (lv_sub hl [2, 1, 0] rfl)
