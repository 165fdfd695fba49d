/-! the landed program: Suit.judge, Suit.answer; Citizen -/
def cGu (x : cS) (k t n : Nat) : Bool := decide (cnt (cCt x k) n < 2 * cnt (cCv x k) n) || (decide (x.1 26 t 3 = 1) && decide (2 * cnt (cCv x k) n = cnt (cCt x k) n))
def cJ1 (x : cS) (k t n : Nat) : cS := cI (cI (cI x 20 k 13 (zI (cGu x k t n))) 20 k 14 (-1)) 20 k 15 0
def cJudge (x : cS) (k t n q : Nat) : cS := if cGu x k t n then cCharge (cJ1 x k t n) k (x.1 20 k 8) (x.1 26 t (40 + q) + x.1 20 k 9) else if 5 * cnt (cCv x k) n < cnt (cCt x k) n then cCharge (cJ1 x k t n) k (x.1 20 k 7) (x.1 26 t 2) else cJ1 x k t n
theorem cnt_le2 {p q : Nat → Bool} (h : ∀ i, q i = true → p i = true) : ∀ n, cnt q n ≤ cnt p n
  | 0 => Nat.le_refl _
  | n + 1 => by
    have ih := cnt_le2 h n
    simp only [cnt]
    by_cases h1 : q n = true
    · rw [if_pos h1, if_pos (h n h1)]; omega
    · rw [if_neg h1]; split <;> omega
set_option maxHeartbeats 4000000 in
set_option maxRecDepth 100000 in
/-- Suit.judge -/
theorem ctX7_judge (l : Launch) (D : va_G) (y : Nat → ClassId) (ad : Nat → Nat → Nat) (x : cS) (R : List (Nat × Nat)) (qs : Nat → Nat × Nat) (nC nT : Nat) (hR : cHas R nC nT) (k : Nat) (t n q : Nat) (hk5 : k < 5) (ht : t < nT + 2) (hs : x.1 20 k 5 = nI n) (hn : n ≤ 25) (hq6 : q < 6) (hkd : x.1 20 k 6 = nI q) : cMv l yX7_judge wsX7_judge ({ frames := 2, cells := 0, slots := 0, locals := 43 }) D y ad x R qs [.ref (ad 20 k), .ref (ad 25 t)] (fun x' => x' = cJudge x k t n q) := by
  refine cMv_of (cc := cX7_judge) (maxL := 6) (ret := none) (by decide) rfl (Nat.le_of_ble_eq_true rfl) ?_
  intro p e s m below meth c A ls hat hAe hl
  obtain ⟨hx, hb, hr, hml, hts, hown, hlocks, hK, hP, hD, hA, hE⟩ := hat
  have hown : s.vm.findClass RX7 = some m.cls := hown
  have hin7 : ∀ w ∈ wsX70, w ∈ wsX7_judge := fun _ h9 => List.mem_cons_of_mem _ (List.mem_append_left _ (List.mem_append_right _ h9))
  have hin6 : ∀ w ∈ wsX60, w ∈ wsX7_judge := fun _ h9 => List.mem_cons_of_mem _ (List.mem_append_right _ h9)
  have hl : lv_has ls 6 [(0, .ref (ad 20 k)), (1, .ref (ad 25 t))] := hl
  have hS : va_S A s.heap s.heap [] := va_S.rf
  refine lv_aload_n hx hb dX7_judge_0 rfl (lv_at hl 0 rfl) ?_
  refine c_callip (ci := 7) (q := (RX7, TX7, 16)) (κ := 20) (i := k) (As := []) (rest := []) ⟨hx, hb, hml, hown, hts⟩ (ctX7_counted l D y ad x R qs nC nT hR k n hk5 hs hn) (cwV 0 hts gX7_judge_X7_counted rfl rfl rfl (by decide +kernel) ⟨Nat.le_of_ble_eq_true rfl, Nat.le_of_ble_eq_true rfl⟩) ((hR 20 (k)).mpr hk5) (fun _ _ _ => ⟨_, rfl⟩) rfl hE hK hP hD hS hA rfl hl.1 rfl (Nat.le_of_ble_eq_true rfl) dX7_judge_1 ⟨Nat.zero_le _, Nat.zero_le _⟩ (fun H locs hP hD hS => ?_)
  refine lv_topi (fun x2 ex2 => ?_)
  refine lv_istore_n (lv' := [(2, .int x2), (0, .ref (ad 20 k)), (1, .ref (ad 25 t))]) hx hb dX7_judge_4 rfl hl (by decide) rfl (fun ls hl => ?_)
  refine lv_aload_n hx hb dX7_judge_5 rfl (lv_at hl 1 rfl) ?_
  refine c_callip (ci := 7) (q := (RX7, TX7, 16)) (κ := 20) (i := k) (As := []) (rest := []) ⟨hx, hb, hml, hown, hts⟩ (ctX7_convicting l D y ad x R qs nC nT hR k n hk5 hs hn) (cwV 0 hts gX7_judge_X7_convicting rfl rfl rfl (by decide +kernel) ⟨Nat.le_of_ble_eq_true rfl, Nat.le_of_ble_eq_true rfl⟩) ((hR 20 (k)).mpr hk5) (fun _ _ _ => ⟨_, rfl⟩) rfl hE hK hP hD hS hA rfl hl.1 rfl (Nat.le_of_ble_eq_true rfl) dX7_judge_6 ⟨Nat.zero_le _, Nat.zero_le _⟩ (fun H locs hP hD hS => ?_)
  refine lv_topi (fun x3 ex3 => ?_)
  refine lv_istore_n (lv' := [(3, .int x3), (2, .int x2), (0, .ref (ad 20 k)), (1, .ref (ad 25 t))]) hx hb dX7_judge_9 rfl hl (by decide) rfl (fun ls hl => ?_)
  have hNa : cnt (cCt x k) n ≤ 25 := Nat.le_trans (cnt_le _ _) hn
  have hNc : cnt (cCv x k) n ≤ 25 := Nat.le_trans (cnt_le _ _) hn
  have h2c : (2 : Int32) * x3 = nI (2 * cnt (cCv x k) n) := by rw [ex3, show (2 : Int32) = nI 2 from rfl, pk_mul]
  have h5c : (5 : Int32) * x3 = nI (5 * cnt (cCv x k) n) := by rw [ex3, show (5 : Int32) = nI 5 from rfl, pk_mul]
  have e3 : cAns x t 3 = x.1 26 t 3 := cAns_k x t (j := 3) (by omega)
  have j_24 : ∀ z4 : Int32, z4 = zI (decide (x.1 26 t 3 = 1)) → ∀ (H : Heap) (locs : List Loc), va_P D vwCl (cW ad y x R) H → va_D A (cW ad y x R) → va_S A s.heap H locs → W p l e (headSpec wsX7_judge ({ frames := 2, cells := 0, slots := 0, locals := 43 })).room s m ([.ref (ad 20 k), .ref (ad 25 t)] : List Value).toArray below meth c H locs 0 0 (MQ below (va_Qv (fun x' => x' = cJudge x k t n q) (cEnd D y ad R s.heap.size) A) ([.ref (ad 20 k), .ref (ad 25 t)] : List Value).toArray s 0 0 A) (F0 m 24 ls (.int z4 :: [])) := by
    intro z4 hz4 H locs hP hD hS
    refine lv_istore (lv' := [(4, .int z4), (3, .int x3), (2, .int x2), (0, .ref (ad 20 k)), (1, .ref (ad 25 t))]) hx hb dX7_judge_24 hl (by decide) rfl (fun ls hl => ?_)
    have j_50 : ∀ z5 : Int32, z5 = zI (cGu x k t n) → ∀ (H : Heap) (locs : List Loc), va_P D vwCl (cW ad y x R) H → va_D A (cW ad y x R) → va_S A s.heap H locs → W p l e (headSpec wsX7_judge ({ frames := 2, cells := 0, slots := 0, locals := 43 })).room s m ([.ref (ad 20 k), .ref (ad 25 t)] : List Value).toArray below meth c H locs 0 0 (MQ below (va_Qv (fun x' => x' = cJudge x k t n q) (cEnd D y ad R s.heap.size) A) ([.ref (ad 20 k), .ref (ad 25 t)] : List Value).toArray s 0 0 A) (F0 m 50 ls (.int z5 :: [])) := by
      intro z5 hz5 H locs hP hD hS
      refine lv_istore (lv' := [(5, .int z5), (4, .int z4), (3, .int x3), (2, .int x2), (0, .ref (ad 20 k)), (1, .ref (ad 25 t))]) hx hb dX7_judge_50 hl (by decide) rfl (fun ls hl => ?_)
      have j_63 : ∀ zv : Int32, zv = zI (cGu x k t n) → ∀ (H : Heap) (locs : List Loc), va_P D vwCl (cW ad y x R) H → va_D A (cW ad y x R) → va_S A s.heap H locs → W p l e (headSpec wsX7_judge ({ frames := 2, cells := 0, slots := 0, locals := 43 })).room s m ([.ref (ad 20 k), .ref (ad 25 t)] : List Value).toArray below meth c H locs 0 0 (MQ below (va_Qv (fun x' => x' = cJudge x k t n q) (cEnd D y ad R s.heap.size) A) ([.ref (ad 20 k), .ref (ad 25 t)] : List Value).toArray s 0 0 A) (F0 m 63 ls (.int zv :: [.ref (ad 20 k)])) := by
        intro zv hzv H locs hP hD hS
        refine cp_X7_verdict (i := k) hx hb hts hin7 hown hK hP hD hS ((hR 20 (k)).mpr hk5) (by decide +kernel) dX7_judge_63 (fun H locs hP hD hS => ?_)
        refine lv_aload_n hx hb dX7_judge_66 rfl (lv_at hl 4 rfl) ?_
        refine lv_iconst (v := (-1)) hx hb dX7_judge_67 (by decide) ?_
        refine cp_X7_debtor (i := k) hx hb hts hin7 hown hK hP hD hS ((hR 20 (k)).mpr hk5) (by decide +kernel) dX7_judge_68 (fun H locs hP hD hS => ?_)
        refine lv_aload_n hx hb dX7_judge_71 rfl (lv_at hl 4 rfl) ?_
        refine lv_iconst (v := 0) hx hb dX7_judge_72 (by decide) ?_
        refine cp_X7_debt (i := k) hx hb hts hin7 hown hK hP hD hS ((hR 20 (k)).mpr hk5) (by decide +kernel) dX7_judge_73 (fun H locs hP hD hS => ?_)
        rw [hzv] at hP hD
        have hP : va_P D vwCl (cW ad y (cJ1 x k t n) R) H := hP
        have hD : va_D A (cW ad y (cJ1 x k t n) R) := hD
        refine lv_iload hx hb dX7_judge_76 (lv_at hl 0 rfl) ?_
        refine lv_if_eq (tgt := 108) hx hb dX7_judge_78 (by decide) (fun c_78 => ?_) (fun c_78 => ?_)
        · have h78 := (zI_eq _).mp (by rw [← hz5]; exact c_78)
          refine lv_iconst (v := 5) hx hb dX7_judge_108 (by decide) ?_
          refine lv_iload_n hx hb dX7_judge_109 rfl (lv_at hl 2 rfl) ?_
          refine lv_imul hx hb dX7_judge_110 ?_
          refine lv_iload_n hx hb dX7_judge_111 rfl (lv_at hl 3 rfl) ?_
          refine lv_icmp_ge (tgt := 128) hx hb dX7_judge_112 (by decide) (fun c_112 => ?_) (fun c_112 => ?_)
          · have h112 : ¬ 5 * cnt (cCv x k) n < cnt (cCt x k) n := by rw [h5c, ex2] at c_112; have := (nI_leI (by omega) (by omega)).mp c_112; omega
            exact c_retv hx hb hr hlocks hAe hK hP hD hS dX7_judge_128 (by rw [cJudge, if_neg (by rw [h78]; decide), if_neg h112])
          · have h112 : 5 * cnt (cCv x k) n < cnt (cCt x k) n := by rw [h5c, ex2] at c_112; exact Nat.not_le.mp (fun q9 => c_112 (nI_le q9 (by omega)))
            refine lv_aload_n hx hb dX7_judge_115 rfl (lv_at hl 4 rfl) ?_
            refine lv_aload_n hx hb dX7_judge_116 rfl (lv_at hl 4 rfl) ?_
            refine cg_X7_accuser (i := k) hx hb hts hin7 hown hK hP ((hR 20 (k)).mpr hk5) (by decide +kernel) dX7_judge_117 ?_
            refine lv_aload_n hx hb dX7_judge_120 rfl (lv_at hl 5 rfl) ?_
            refine lv_iconst (v := 2) hx hb dX7_judge_121 (by decide) ?_
            refine c_callip (ci := 6) (q := (RX6, TX6, 2)) (κ := 25) (i := t) (As := [.int (2)]) (rest := [.int _, .ref (ad 20 k)]) ⟨hx, hb, hml, hown, hts⟩ (ctX6_answer l D y ad (cJ1 x k t n) R qs nC nT hR t (2) ht) (cwV 1 hts gX7_judge_X6_answer rfl rfl rfl (by decide +kernel) ⟨Nat.le_of_ble_eq_true rfl, Nat.le_of_ble_eq_true rfl⟩) ((hR 25 (t)).mpr ht) (fun _ _ _ => ⟨_, rfl⟩) rfl hE hK hP hD hS hA rfl hl.1 rfl (Nat.le_of_ble_eq_true rfl) dX7_judge_122 ⟨Nat.zero_le _, Nat.zero_le _⟩ (fun H locs hP hD hS => ?_)
            refine c_callv (ci := 7) (q := (RX7, TX7, 16)) (κ := 20) (i := k) (As := [.int _, .int _]) (rest := []) ⟨hx, hb, hml, hown, hts⟩ (ctX7_charge l D y ad _ R qs nC nT hR k _ _ hk5) (cwV 2 hts gX7_judge_X7_charge rfl rfl rfl (by decide +kernel) ⟨Nat.le_of_ble_eq_true rfl, Nat.le_of_ble_eq_true rfl⟩) ((hR 20 (k)).mpr hk5) (fun _ _ _ => ⟨_, rfl⟩) rfl hE hK hP hD hS hA rfl hl.1 rfl (Nat.le_of_ble_eq_true rfl) dX7_judge_125 ⟨Nat.zero_le _, Nat.zero_le _⟩ (fun x1 H locs hq hP hD hS => ?_)
            exact c_retv hx hb hr hlocks hAe hK hP hD hS dX7_judge_128 (by rw [hq, cJudge, if_neg (by rw [h78]; decide), if_pos h112, show cAns (cJ1 x k t n) t 2 = x.1 26 t 2 from (cAns_k (cJ1 x k t n) t (j := 2) (by omega)).trans (by simp [cJ1, cI_r])]; simp [cJ1, cI_r])
        · have h78 := (zI_ne _).mp (by rw [← hz5]; exact c_78)
          refine lv_aload_n hx hb dX7_judge_81 rfl (lv_at hl 4 rfl) ?_
          refine lv_aload_n hx hb dX7_judge_82 rfl (lv_at hl 4 rfl) ?_
          refine cg_X7_accused (i := k) hx hb hts hin7 hown hK hP ((hR 20 (k)).mpr hk5) (by decide +kernel) dX7_judge_83 ?_
          refine lv_aload_n hx hb dX7_judge_86 rfl (lv_at hl 5 rfl) ?_
          refine lv_bipush (v := 40) hx hb dX7_judge_87 (by decide) ?_
          refine lv_aload_n hx hb dX7_judge_89 rfl (lv_at hl 4 rfl) ?_
          refine cg_X7_kind (i := k) hx hb hts hin7 hown hK hP ((hR 20 (k)).mpr hk5) (by decide +kernel) dX7_judge_90 ?_
          refine lv_iadd hx hb dX7_judge_93 ?_
          rw [show (cJ1 x k t n).1 20 k 6 = x.1 20 k 6 by simp [cJ1, cI_r]]
          refine c_callip (ci := 6) (q := (RX6, TX6, 2)) (κ := 25) (i := t) (As := [.int (40 + x.1 20 k 6)]) (rest := [.int _, .ref (ad 20 k)]) ⟨hx, hb, hml, hown, hts⟩ (ctX6_answer l D y ad (cJ1 x k t n) R qs nC nT hR t (40 + x.1 20 k 6) ht) (cwV 1 hts gX7_judge_X6_answer rfl rfl rfl (by decide +kernel) ⟨Nat.le_of_ble_eq_true rfl, Nat.le_of_ble_eq_true rfl⟩) ((hR 25 (t)).mpr ht) (fun _ _ _ => ⟨_, rfl⟩) rfl hE hK hP hD hS hA rfl hl.1 rfl (Nat.le_of_ble_eq_true rfl) dX7_judge_94 ⟨Nat.zero_le _, Nat.zero_le _⟩ (fun H locs hP hD hS => ?_)
          refine lv_aload_n hx hb dX7_judge_97 rfl (lv_at hl 4 rfl) ?_
          refine cg_X7_sum (i := k) hx hb hts hin7 hown hK hP ((hR 20 (k)).mpr hk5) (by decide +kernel) dX7_judge_98 ?_
          refine lv_iadd hx hb dX7_judge_101 ?_
          refine c_callv (ci := 7) (q := (RX7, TX7, 16)) (κ := 20) (i := k) (As := [.int _, .int _]) (rest := []) ⟨hx, hb, hml, hown, hts⟩ (ctX7_charge l D y ad _ R qs nC nT hR k _ _ hk5) (cwV 2 hts gX7_judge_X7_charge rfl rfl rfl (by decide +kernel) ⟨Nat.le_of_ble_eq_true rfl, Nat.le_of_ble_eq_true rfl⟩) ((hR 20 (k)).mpr hk5) (fun _ _ _ => ⟨_, rfl⟩) rfl hE hK hP hD hS hA rfl hl.1 rfl (Nat.le_of_ble_eq_true rfl) dX7_judge_102 ⟨Nat.zero_le _, Nat.zero_le _⟩ (fun x1 H locs hq hP hD hS => ?_)
          refine lv_goto (tgt := 128) hx hb dX7_judge_105 (by decide) ?_
          exact c_retv hx hb hr hlocks hAe hK hP hD hS dX7_judge_128 (by rw [hq, cJudge, if_pos h78, show cAns (cJ1 x k t n) t (40 + x.1 20 k 6) = x.1 26 t (40 + q) by rw [show (40 : Int32) + x.1 20 k 6 = nI (40 + q) from addk 40 hkd, cAns_k _ _ (by omega)]; simp [cJ1, cI_r]]; simp [cJ1, cI_r])
      refine lv_aload_n hx hb dX7_judge_52 rfl (lv_at hl 4 rfl) ?_
      refine lv_iload hx hb dX7_judge_53 (lv_at hl 0 rfl) ?_
      refine lv_if_eq (tgt := 62) hx hb dX7_judge_55 (by decide) (fun c_55 => ?_) (fun c_55 => ?_)
      · have h55 := (zI_eq _).mp (by rw [← hz5]; exact c_55)
        refine lv_iconst (v := 0) hx hb dX7_judge_62 (by decide) ?_
        exact j_63 _ (by rw [h55]; rfl) _ _ hP hD hS
      · have h55 := (zI_ne _).mp (by rw [← hz5]; exact c_55)
        refine lv_iconst (v := 1) hx hb dX7_judge_58 (by decide) ?_
        refine lv_goto (tgt := 63) hx hb dX7_judge_59 (by decide) ?_
        exact j_63 _ (by rw [h55]; rfl) _ _ hP hD hS
    refine lv_iconst (v := 2) hx hb dX7_judge_26 (by decide) ?_
    refine lv_iload_n hx hb dX7_judge_27 rfl (lv_at hl 1 rfl) ?_
    refine lv_imul hx hb dX7_judge_28 ?_
    refine lv_iload_n hx hb dX7_judge_29 rfl (lv_at hl 2 rfl) ?_
    refine lv_icmp_gt (tgt := 45) hx hb dX7_judge_30 (by decide) (fun c_30 => ?_) (fun c_30 => ?_)
    · have h30 : cnt (cCt x k) n < 2 * cnt (cCv x k) n := by rw [h2c, ex2] at c_30; exact (nI_ltI (by omega) (by omega)).mp c_30
      refine lv_iconst (v := 1) hx hb dX7_judge_45 (by decide) ?_
      refine lv_goto (tgt := 50) hx hb dX7_judge_46 (by decide) ?_
      exact j_50 _ (by simp [zI, cGu, h30]) _ _ hP hD hS
    · have h30 : ¬ cnt (cCt x k) n < 2 * cnt (cCv x k) n := fun q9 => c_30 (by rw [h2c, ex2]; exact (nI_ltI (by omega) (by omega)).mpr q9)
      refine lv_iload hx hb dX7_judge_33 (lv_at hl 0 rfl) ?_
      refine lv_if_eq (tgt := 49) hx hb dX7_judge_35 (by decide) (fun c_35 => ?_) (fun c_35 => ?_)
      · have h35 := (zI_eq _).mp (by rw [← hz4]; exact c_35)
        have h35 : ¬ x.1 26 t 3 = 1 := of_decide_eq_false h35
        refine lv_iconst (v := 0) hx hb dX7_judge_49 (by decide) ?_
        exact j_50 _ (by simp [zI, cGu, h30, h35]) _ _ hP hD hS
      · have h35 := (zI_ne _).mp (by rw [← hz4]; exact c_35)
        have h35 : x.1 26 t 3 = 1 := of_decide_eq_true h35
        refine lv_iconst (v := 2) hx hb dX7_judge_38 (by decide) ?_
        refine lv_iload_n hx hb dX7_judge_39 rfl (lv_at hl 1 rfl) ?_
        refine lv_imul hx hb dX7_judge_40 ?_
        refine lv_iload_n hx hb dX7_judge_41 rfl (lv_at hl 2 rfl) ?_
        refine lv_icmp_ne (tgt := 49) hx hb dX7_judge_42 (by decide) (fun c_42 => ?_) (fun c_42 => ?_)
        · have h42 : ¬ 2 * cnt (cCv x k) n = cnt (cCt x k) n := fun q9 => c_42 (by rw [h2c, ex2, q9])
          refine lv_iconst (v := 0) hx hb dX7_judge_49 (by decide) ?_
          exact j_50 _ (by simp [zI, cGu, h30, h35, h42]) _ _ hP hD hS
        · have h42 : 2 * cnt (cCv x k) n = cnt (cCt x k) n := by rw [h2c, ex2] at c_42; exact (nI_eq (by omega) (by omega)).mp c_42
          refine lv_iconst (v := 1) hx hb dX7_judge_45 (by decide) ?_
          refine lv_goto (tgt := 50) hx hb dX7_judge_46 (by decide) ?_
          exact j_50 _ (by simp [zI, cGu, h30, h35, h42]) _ _ hP hD hS
  refine lv_aload_n hx hb dX7_judge_10 rfl (lv_at hl 3 rfl) ?_
  refine lv_iconst (v := 3) hx hb dX7_judge_11 (by decide) ?_
  refine c_callip (ci := 6) (q := (RX6, TX6, 2)) (κ := 25) (i := t) (As := [.int (3)]) (rest := []) ⟨hx, hb, hml, hown, hts⟩ (ctX6_answer l D y ad x R qs nC nT hR t (3) ht) (cwV 1 hts gX7_judge_X6_answer rfl rfl rfl (by decide +kernel) ⟨Nat.le_of_ble_eq_true rfl, Nat.le_of_ble_eq_true rfl⟩) ((hR 25 (t)).mpr ht) (fun _ _ _ => ⟨_, rfl⟩) rfl hE hK hP hD hS hA rfl hl.1 rfl (Nat.le_of_ble_eq_true rfl) dX7_judge_12 ⟨Nat.zero_le _, Nat.zero_le _⟩ (fun H locs hP hD hS => ?_)
  refine lv_iconst (v := 1) hx hb dX7_judge_15 (by decide) ?_
  refine lv_icmp_ne (tgt := 23) hx hb dX7_judge_16 (by decide) (fun c_16 => ?_) (fun c_16 => ?_)
  · rw [e3] at c_16
    refine lv_iconst (v := 0) hx hb dX7_judge_23 (by decide) ?_
    exact j_24 _ (by simp [zI, c_16]) _ _ hP hD hS
  · rw [e3] at c_16
    refine lv_iconst (v := 1) hx hb dX7_judge_19 (by decide) ?_
    refine lv_goto (tgt := 24) hx hb dX7_judge_20 (by decide) ?_
    exact j_24 _ (by simp [zI, c_16]) _ _ hP hD hS
def cSA (x : cS) (k n : Nat) (w : Int32) : Int32 := if x.1 20 k 3 = 0 then -1 else if w = 3 then x.1 20 k 6 else if w = 4 then x.1 20 k 7 else if w = 5 then x.1 20 k 8 else if w = 6 then x.1 20 k 9 else if w = 7 then x.1 23 k 0 else if w = 8 then x.1 23 k 1 else if w = 9 then nI (cnt (cCt x k) n) else if w = 10 then (if ¬ x.1 20 k 4 = 0 ∧ 0 < cnt (cWt x k) n then -1 else nI (cnt (cCv x k) n)) else if w = 11 then nI (cnt (cSk x k) n) else if w = 12 then x.1 20 k 13 else if w = 13 then x.1 20 k 14 else if w = 14 then x.1 20 k 15 else -1
set_option maxHeartbeats 4000000 in
set_option maxRecDepth 100000 in
/-- Suit.answer -/
theorem ctX7_answer (l : Launch) (D : va_G) (y : Nat → ClassId) (ad : Nat → Nat → Nat) (x : cS) (R : List (Nat × Nat)) (qs : Nat → Nat × Nat) (nC nT : Nat) (hR : cHas R nC nT) (k : Nat) (n : Nat) (w : Int32) (hk5 : k < 5) (hs : x.1 20 k 5 = nI n) (hn : n ≤ 25) : cMi l yX7_answer wsX7_answer ({ frames := 3, cells := 0, slots := 0, locals := 63 }) D y ad x R qs [.ref (ad 20 k), .int w] (fun r x' => r = cSA x k n w ∧ x' = x) := by
  refine cMi_of (cc := cX7_answer) (maxL := 2) (ret := (some .int)) (by decide) rfl (Nat.le_of_ble_eq_true rfl) ?_
  intro p e s m below meth c A ls hat hAe hl
  obtain ⟨hx, hb, hr, hml, hts, hown, hlocks, hK, hP, hD, hA, hE⟩ := hat
  have hown : s.vm.findClass RX7 = some m.cls := hown
  have hin7 : ∀ w ∈ wsX70, w ∈ wsX7_answer := fun _ h9 => List.mem_cons_of_mem _ (List.mem_append_right _ h9)
  have hl : lv_has ls 2 [(0, .ref (ad 20 k)), (1, .int w)] := hl
  have hS : va_S A s.heap s.heap [] := va_S.rf
  refine lv_aload_n hx hb dX7_answer_0 rfl (lv_at hl 0 rfl) ?_
  refine cg_X7_begun (i := k) hx hb hts hin7 hown hK hP ((hR 20 (k)).mpr hk5) (by decide +kernel) dX7_answer_1 ?_
  refine lv_if_ne (tgt := 9) hx hb dX7_answer_4 (by decide) (fun c_4 => ?_) (fun c_4 => ?_)
  · refine lv_iload_n hx hb dX7_answer_9 rfl (lv_at hl 1 rfl) ?_
    refine lv_topi (fun sw_10 esw_10 => ?_)
    by_cases w3_10 : sw_10 = 3
    · subst w3_10
      refine lv_tableIn (tgt := 72) hx hb dX7_answer_10 (by decide) (by decide) rfl (by decide) ?_
      refine lv_aload_n hx hb dX7_answer_72 rfl (lv_at hl 0 rfl) ?_
      refine cg_X7_kind (i := k) hx hb hts hin7 hown hK hP ((hR 20 (k)).mpr hk5) (by decide +kernel) dX7_answer_73 ?_
      exact c_reti hx hb hr hlocks hAe hK hP hD hS rfl dX7_answer_76 (⟨by rw [cSA, if_neg c_4]; simp [← esw_10], rfl⟩)
    by_cases w4_10 : sw_10 = 4
    · subst w4_10
      refine lv_tableIn (tgt := 77) hx hb dX7_answer_10 (by decide) (by decide) rfl (by decide) ?_
      refine lv_aload_n hx hb dX7_answer_77 rfl (lv_at hl 0 rfl) ?_
      refine cg_X7_accuser (i := k) hx hb hts hin7 hown hK hP ((hR 20 (k)).mpr hk5) (by decide +kernel) dX7_answer_78 ?_
      exact c_reti hx hb hr hlocks hAe hK hP hD hS rfl dX7_answer_81 (⟨by rw [cSA, if_neg c_4]; simp [← esw_10], rfl⟩)
    by_cases w5_10 : sw_10 = 5
    · subst w5_10
      refine lv_tableIn (tgt := 82) hx hb dX7_answer_10 (by decide) (by decide) rfl (by decide) ?_
      refine lv_aload_n hx hb dX7_answer_82 rfl (lv_at hl 0 rfl) ?_
      refine cg_X7_accused (i := k) hx hb hts hin7 hown hK hP ((hR 20 (k)).mpr hk5) (by decide +kernel) dX7_answer_83 ?_
      exact c_reti hx hb hr hlocks hAe hK hP hD hS rfl dX7_answer_86 (⟨by rw [cSA, if_neg c_4]; simp [← esw_10], rfl⟩)
    by_cases w6_10 : sw_10 = 6
    · subst w6_10
      refine lv_tableIn (tgt := 87) hx hb dX7_answer_10 (by decide) (by decide) rfl (by decide) ?_
      refine lv_aload_n hx hb dX7_answer_87 rfl (lv_at hl 0 rfl) ?_
      refine cg_X7_sum (i := k) hx hb hts hin7 hown hK hP ((hR 20 (k)).mpr hk5) (by decide +kernel) dX7_answer_88 ?_
      exact c_reti hx hb hr hlocks hAe hK hP hD hS rfl dX7_answer_91 (⟨by rw [cSA, if_neg c_4]; simp [← esw_10], rfl⟩)
    by_cases w7_10 : sw_10 = 7
    · subst w7_10
      refine lv_tableIn (tgt := 92) hx hb dX7_answer_10 (by decide) (by decide) rfl (by decide) ?_
      refine lv_aload_n hx hb dX7_answer_92 rfl (lv_at hl 0 rfl) ?_
      refine cg_X7_water (i := k) hx hb hts hin7 hown hK hP ((hR 20 (k)).mpr hk5) (by decide +kernel) dX7_answer_93 ?_
      refine lv_iconst (v := 0) hx hb dX7_answer_96 (by decide) ?_
      refine cl_int 23 (k) 2 hx hb hK hP ((hR 23 (k)).mpr hk5) (fun _ _ _ => rfl) (show vp_in (nI 0) 2 from vp_in_nI (by omega) (by omega)) dX7_answer_97 ?_
      exact c_reti hx hb hr hlocks hAe hK hP hD hS rfl dX7_answer_98 (⟨by rw [cSA, if_neg c_4]; simp [← esw_10], rfl⟩)
    by_cases w8_10 : sw_10 = 8
    · subst w8_10
      refine lv_tableIn (tgt := 99) hx hb dX7_answer_10 (by decide) (by decide) rfl (by decide) ?_
      refine lv_aload_n hx hb dX7_answer_99 rfl (lv_at hl 0 rfl) ?_
      refine cg_X7_water (i := k) hx hb hts hin7 hown hK hP ((hR 20 (k)).mpr hk5) (by decide +kernel) dX7_answer_100 ?_
      refine lv_iconst (v := 1) hx hb dX7_answer_103 (by decide) ?_
      refine cl_int 23 (k) 2 hx hb hK hP ((hR 23 (k)).mpr hk5) (fun _ _ _ => rfl) (show vp_in (nI 1) 2 from vp_in_nI (by omega) (by omega)) dX7_answer_104 ?_
      exact c_reti hx hb hr hlocks hAe hK hP hD hS rfl dX7_answer_105 (⟨by rw [cSA, if_neg c_4]; simp [← esw_10], rfl⟩)
    by_cases w9_10 : sw_10 = 9
    · subst w9_10
      refine lv_tableIn (tgt := 106) hx hb dX7_answer_10 (by decide) (by decide) rfl (by decide) ?_
      refine lv_aload_n hx hb dX7_answer_106 rfl (lv_at hl 0 rfl) ?_
      refine c_callip (ci := 7) (q := (RX7, TX7, 16)) (κ := 20) (i := k) (As := []) (rest := []) ⟨hx, hb, hml, hown, hts⟩ (ctX7_counted l D y ad x R qs nC nT hR k n hk5 hs hn) (cwV 0 hts gX7_answer_X7_counted rfl rfl rfl (by decide +kernel) ⟨Nat.le_of_ble_eq_true rfl, Nat.le_of_ble_eq_true rfl⟩) ((hR 20 (k)).mpr hk5) (fun _ _ _ => ⟨_, rfl⟩) rfl hE hK hP hD hS hA rfl hl.1 rfl (Nat.le_of_ble_eq_true rfl) dX7_answer_107 ⟨Nat.zero_le _, Nat.zero_le _⟩ (fun H locs hP hD hS => ?_)
      exact c_reti hx hb hr hlocks hAe hK hP hD hS rfl dX7_answer_110 (⟨by rw [cSA, if_neg c_4]; simp [← esw_10], rfl⟩)
    by_cases w10_10 : sw_10 = 10
    · subst w10_10
      refine lv_tableIn (tgt := 111) hx hb dX7_answer_10 (by decide) (by decide) rfl (by decide) ?_
      refine lv_aload_n hx hb dX7_answer_111 rfl (lv_at hl 0 rfl) ?_
      refine cg_X7_open (i := k) hx hb hts hin7 hown hK hP ((hR 20 (k)).mpr hk5) (by decide +kernel) dX7_answer_112 ?_
      refine lv_if_eq (tgt := 129) hx hb dX7_answer_115 (by decide) (fun c_115 => ?_) (fun c_115 => ?_)
      · refine lv_aload_n hx hb dX7_answer_129 rfl (lv_at hl 0 rfl) ?_
        refine c_callip (ci := 7) (q := (RX7, TX7, 16)) (κ := 20) (i := k) (As := []) (rest := []) ⟨hx, hb, hml, hown, hts⟩ (ctX7_convicting l D y ad x R qs nC nT hR k n hk5 hs hn) (cwV 0 hts gX7_answer_X7_convicting rfl rfl rfl (by decide +kernel) ⟨Nat.le_of_ble_eq_true rfl, Nat.le_of_ble_eq_true rfl⟩) ((hR 20 (k)).mpr hk5) (fun _ _ _ => ⟨_, rfl⟩) rfl hE hK hP hD hS hA rfl hl.1 rfl (Nat.le_of_ble_eq_true rfl) dX7_answer_130 ⟨Nat.zero_le _, Nat.zero_le _⟩ (fun H locs hP hD hS => ?_)
        exact c_reti hx hb hr hlocks hAe hK hP hD hS rfl dX7_answer_133 (⟨by rw [cSA, if_neg c_4]; simp [← esw_10, c_115], rfl⟩)
      · refine lv_aload_n hx hb dX7_answer_118 rfl (lv_at hl 0 rfl) ?_
        refine c_callip (ci := 7) (q := (RX7, TX7, 16)) (κ := 20) (i := k) (As := []) (rest := []) ⟨hx, hb, hml, hown, hts⟩ (ctX7_wanting l D y ad x R qs nC nT hR k n hk5 hs hn) (cwV 0 hts gX7_answer_X7_wanting rfl rfl rfl (by decide +kernel) ⟨Nat.le_of_ble_eq_true rfl, Nat.le_of_ble_eq_true rfl⟩) ((hR 20 (k)).mpr hk5) (fun _ _ _ => ⟨_, rfl⟩) rfl hE hK hP hD hS hA rfl hl.1 rfl (Nat.le_of_ble_eq_true rfl) dX7_answer_119 ⟨Nat.zero_le _, Nat.zero_le _⟩ (fun H locs hP hD hS => ?_)
        refine lv_if_le (tgt := 129) hx hb dX7_answer_122 (by decide) (fun c_122 => ?_) (fun c_122 => ?_)
        · have h122 : ¬ 0 < cnt (cWt x k) n := by have := cnt_le (cWt x k) n; have h9 := (nI_leI (b := 0) (by omega) (by omega)).mp c_122; omega
          refine lv_aload_n hx hb dX7_answer_129 rfl (lv_at hl 0 rfl) ?_
          refine c_callip (ci := 7) (q := (RX7, TX7, 16)) (κ := 20) (i := k) (As := []) (rest := []) ⟨hx, hb, hml, hown, hts⟩ (ctX7_convicting l D y ad x R qs nC nT hR k n hk5 hs hn) (cwV 0 hts gX7_answer_X7_convicting rfl rfl rfl (by decide +kernel) ⟨Nat.le_of_ble_eq_true rfl, Nat.le_of_ble_eq_true rfl⟩) ((hR 20 (k)).mpr hk5) (fun _ _ _ => ⟨_, rfl⟩) rfl hE hK hP hD hS hA rfl hl.1 rfl (Nat.le_of_ble_eq_true rfl) dX7_answer_130 ⟨Nat.zero_le _, Nat.zero_le _⟩ (fun H locs hP hD hS => ?_)
          exact c_reti hx hb hr hlocks hAe hK hP hD hS rfl dX7_answer_133 (⟨by rw [cSA, if_neg c_4]; simp [← esw_10, c_115, h122], rfl⟩)
        · have h122 : 0 < cnt (cWt x k) n := by have := cnt_le (cWt x k) n; exact Nat.not_le.mp (fun q => c_122 (nI_le (b := 0) q (by omega)))
          refine lv_iconst (v := (-1)) hx hb dX7_answer_125 (by decide) ?_
          refine lv_goto (tgt := 133) hx hb dX7_answer_126 (by decide) ?_
          exact c_reti hx hb hr hlocks hAe hK hP hD hS rfl dX7_answer_133 (⟨by rw [cSA, if_neg c_4]; simp [← esw_10, c_115, h122], rfl⟩)
    by_cases w11_10 : sw_10 = 11
    · subst w11_10
      refine lv_tableIn (tgt := 134) hx hb dX7_answer_10 (by decide) (by decide) rfl (by decide) ?_
      refine lv_aload_n hx hb dX7_answer_134 rfl (lv_at hl 0 rfl) ?_
      refine c_callip (ci := 7) (q := (RX7, TX7, 16)) (κ := 20) (i := k) (As := []) (rest := []) ⟨hx, hb, hml, hown, hts⟩ (ctX7_struckOut l D y ad x R qs nC nT hR k n hk5 hs hn) (cwV 0 hts gX7_answer_X7_struckOut rfl rfl rfl (by decide +kernel) ⟨Nat.le_of_ble_eq_true rfl, Nat.le_of_ble_eq_true rfl⟩) ((hR 20 (k)).mpr hk5) (fun _ _ _ => ⟨_, rfl⟩) rfl hE hK hP hD hS hA rfl hl.1 rfl (Nat.le_of_ble_eq_true rfl) dX7_answer_135 ⟨Nat.zero_le _, Nat.zero_le _⟩ (fun H locs hP hD hS => ?_)
      exact c_reti hx hb hr hlocks hAe hK hP hD hS rfl dX7_answer_138 (⟨by rw [cSA, if_neg c_4]; simp [← esw_10], rfl⟩)
    by_cases w12_10 : sw_10 = 12
    · subst w12_10
      refine lv_tableIn (tgt := 139) hx hb dX7_answer_10 (by decide) (by decide) rfl (by decide) ?_
      refine lv_aload_n hx hb dX7_answer_139 rfl (lv_at hl 0 rfl) ?_
      refine cg_X7_verdict (i := k) hx hb hts hin7 hown hK hP ((hR 20 (k)).mpr hk5) (by decide +kernel) dX7_answer_140 ?_
      exact c_reti hx hb hr hlocks hAe hK hP hD hS rfl dX7_answer_143 (⟨by rw [cSA, if_neg c_4]; simp [← esw_10], rfl⟩)
    by_cases w13_10 : sw_10 = 13
    · subst w13_10
      refine lv_tableIn (tgt := 144) hx hb dX7_answer_10 (by decide) (by decide) rfl (by decide) ?_
      refine lv_aload_n hx hb dX7_answer_144 rfl (lv_at hl 0 rfl) ?_
      refine cg_X7_debtor (i := k) hx hb hts hin7 hown hK hP ((hR 20 (k)).mpr hk5) (by decide +kernel) dX7_answer_145 ?_
      exact c_reti hx hb hr hlocks hAe hK hP hD hS rfl dX7_answer_148 (⟨by rw [cSA, if_neg c_4]; simp [← esw_10], rfl⟩)
    by_cases w14_10 : sw_10 = 14
    · subst w14_10
      refine lv_tableIn (tgt := 149) hx hb dX7_answer_10 (by decide) (by decide) rfl (by decide) ?_
      refine lv_aload_n hx hb dX7_answer_149 rfl (lv_at hl 0 rfl) ?_
      refine cg_X7_debt (i := k) hx hb hts hin7 hown hK hP ((hR 20 (k)).mpr hk5) (by decide +kernel) dX7_answer_150 ?_
      exact c_reti hx hb hr hlocks hAe hK hP hD hS rfl dX7_answer_153 (⟨by rw [cSA, if_neg c_4]; simp [← esw_10], rfl⟩)
    refine lv_tableOut (tgt := 154) hx hb dX7_answer_10 (by have q3 := tI sw_10 3 3 rfl w3_10; have q4 := tI sw_10 4 4 rfl w4_10; have q5 := tI sw_10 5 5 rfl w5_10; have q6 := tI sw_10 6 6 rfl w6_10; have q7 := tI sw_10 7 7 rfl w7_10; have q8 := tI sw_10 8 8 rfl w8_10; have q9 := tI sw_10 9 9 rfl w9_10; have q10 := tI sw_10 10 10 rfl w10_10; have q11 := tI sw_10 11 11 rfl w11_10; have q12 := tI sw_10 12 12 rfl w12_10; have q13 := tI sw_10 13 13 rfl w13_10; have q14 := tI sw_10 14 14 rfl w14_10; omega) (by decide) ?_
    refine lv_iconst (v := (-1)) hx hb dX7_answer_154 (by decide) ?_
    exact c_reti hx hb hr hlocks hAe hK hP hD hS rfl dX7_answer_155 (⟨by simp only [cSA, c_4, w3_10, w4_10, w5_10, w6_10, w7_10, w8_10, w9_10, w10_10, w11_10, w12_10, w13_10, w14_10, if_false, ← esw_10], rfl⟩)
  · refine lv_iconst (v := (-1)) hx hb dX7_answer_7 (by decide) ?_
    exact c_reti hx hb hr hlocks hAe hK hP hD hS rfl dX7_answer_8 (⟨by simp [cSA, c_4], rfl⟩)
def cHo (x : cS) (t w r : Int32) (c : Nat) : Bool := decide (x.1 24 c 1 = t) && (decide (x.1 24 c 2 = w) && decide (x.1 24 c 7 = r))
set_option maxHeartbeats 4000000 in
set_option maxRecDepth 100000 in
/-- Citizen.holds -/
theorem ctX1_holds (l : Launch) (D : va_G) (y : Nat → ClassId) (ad : Nat → Nat → Nat) (x : cS) (R : List (Nat × Nat)) (qs : Nat → Nat × Nat) (nC nT : Nat) (hR : cHas R nC nT) (c9 : Nat) (t w r : Int32) (hc : c9 < nC) : cMi l yX1_holds wsX1_holds ({ frames := 0, cells := 0, slots := 0, locals := 0 }) D y ad x R qs [.ref (ad 24 c9), .int t, .int w, .int r] (fun r' x' => r' = zI (cHo x t w r c9) ∧ x' = x) := by
  refine cMi_of (cc := cX1_holds) (maxL := 4) (ret := (some .boolean)) (by decide) rfl (Nat.le_of_ble_eq_true rfl) ?_
  intro p e s m below meth c A ls hat hAe hl
  obtain ⟨hx, hb, hr, hml, hts, hown, hlocks, hK, hP, hD, hA, hE⟩ := hat
  have hown : s.vm.findClass RX1 = some m.cls := hown
  have hin1 : ∀ w ∈ wsX10, w ∈ wsX1_holds := fun _ h9 => List.mem_cons_of_mem _ (List.mem_append_right _ h9)
  have hl : lv_has ls 4 [(0, .ref (ad 24 c9)), (1, .int t), (2, .int w), (3, .int r)] := hl
  have hS : va_S A s.heap s.heap [] := va_S.rf
  refine lv_aload_n hx hb dX1_holds_0 rfl (lv_at hl 0 rfl) ?_
  refine cg_X1_tribe (i := c9) hx hb hts hin1 hown hK hP ((hR 24 (c9)).mpr hc) (by decide +kernel) dX1_holds_1 ?_
  refine lv_iload_n hx hb dX1_holds_4 rfl (lv_at hl 1 rfl) ?_
  refine lv_icmp_ne (tgt := 28) hx hb dX1_holds_5 (by decide) (fun c_5 => ?_) (fun c_5 => ?_)
  · refine lv_iconst (v := 0) hx hb dX1_holds_28 (by decide) ?_
    exact c_reti hx hb hr hlocks hAe hK hP hD hS (by first | rfl | decide) dX1_holds_29 (⟨by simp [zI, cHo, c_5], rfl⟩)
  · refine lv_aload_n hx hb dX1_holds_8 rfl (lv_at hl 0 rfl) ?_
    refine cg_X1_letter (i := c9) hx hb hts hin1 hown hK hP ((hR 24 (c9)).mpr hc) (by decide +kernel) dX1_holds_9 ?_
    refine lv_iload_n hx hb dX1_holds_12 rfl (lv_at hl 2 rfl) ?_
    refine lv_icmp_ne (tgt := 28) hx hb dX1_holds_13 (by decide) (fun c_13 => ?_) (fun c_13 => ?_)
    · refine lv_iconst (v := 0) hx hb dX1_holds_28 (by decide) ?_
      exact c_reti hx hb hr hlocks hAe hK hP hD hS (by first | rfl | decide) dX1_holds_29 (⟨by simp [zI, cHo, c_5, c_13], rfl⟩)
    · refine lv_aload_n hx hb dX1_holds_16 rfl (lv_at hl 0 rfl) ?_
      refine cg_X1_place (i := c9) hx hb hts hin1 hown hK hP ((hR 24 (c9)).mpr hc) (by decide +kernel) dX1_holds_17 ?_
      refine lv_iload_n hx hb dX1_holds_20 rfl (lv_at hl 3 rfl) ?_
      refine lv_icmp_ne (tgt := 28) hx hb dX1_holds_21 (by decide) (fun c_21 => ?_) (fun c_21 => ?_)
      · refine lv_iconst (v := 0) hx hb dX1_holds_28 (by decide) ?_
        exact c_reti hx hb hr hlocks hAe hK hP hD hS (by first | rfl | decide) dX1_holds_29 (⟨by simp [zI, cHo, c_5, c_13, c_21], rfl⟩)
      · refine lv_iconst (v := 1) hx hb dX1_holds_24 (by decide) ?_
        refine lv_goto (tgt := 29) hx hb dX1_holds_25 (by decide) ?_
        exact c_reti hx hb hr hlocks hAe hK hP hD hS (by first | rfl | decide) dX1_holds_29 (⟨by simp [zI, cHo, c_5, c_13, c_21], rfl⟩)
def cLv (x : cS) (c : Nat) : cS := cI (cI (cI x 24 c 7 (-1)) 24 c 8 0) 24 c 9 (-1)
set_option maxHeartbeats 4000000 in
set_option maxRecDepth 100000 in
/-- Citizen.leave -/
theorem ctX1_leave (l : Launch) (D : va_G) (y : Nat → ClassId) (ad : Nat → Nat → Nat) (x : cS) (R : List (Nat × Nat)) (qs : Nat → Nat × Nat) (nC nT : Nat) (hR : cHas R nC nT) (c9 : Nat) (hc : c9 < nC) : cMv l yX1_leave wsX1_leave ({ frames := 0, cells := 0, slots := 0, locals := 0 }) D y ad x R qs [.ref (ad 24 c9)] (fun x' => x' = cLv x c9) := by
  refine cMv_of (cc := cX1_leave) (maxL := 1) (ret := none) (by decide) rfl (Nat.le_of_ble_eq_true rfl) ?_
  intro p e s m below meth c A ls hat hAe hl
  obtain ⟨hx, hb, hr, hml, hts, hown, hlocks, hK, hP, hD, hA, hE⟩ := hat
  have hown : s.vm.findClass RX1 = some m.cls := hown
  have hin1 : ∀ w ∈ wsX10, w ∈ wsX1_leave := fun _ h9 => List.mem_cons_of_mem _ (List.mem_append_right _ h9)
  have hl : lv_has ls 1 [(0, .ref (ad 24 c9))] := hl
  have hS : va_S A s.heap s.heap [] := va_S.rf
  refine lv_aload_n hx hb dX1_leave_0 rfl (lv_at hl 0 rfl) ?_
  refine lv_iconst (v := (-1)) hx hb dX1_leave_1 (by decide) ?_
  refine cp_X1_place (i := c9) hx hb hts hin1 hown hK hP hD hS ((hR 24 (c9)).mpr hc) (by decide +kernel) dX1_leave_2 (fun H locs hP hD hS => ?_)
  refine lv_aload_n hx hb dX1_leave_5 rfl (lv_at hl 0 rfl) ?_
  refine lv_iconst (v := 0) hx hb dX1_leave_6 (by decide) ?_
  refine cp_X1_chosen (i := c9) hx hb hts hin1 hown hK hP hD hS ((hR 24 (c9)).mpr hc) (by decide) (by decide +kernel) dX1_leave_7 (fun H locs hP hD hS => ?_)
  refine lv_aload_n hx hb dX1_leave_10 rfl (lv_at hl 0 rfl) ?_
  refine lv_iconst (v := (-1)) hx hb dX1_leave_11 (by decide) ?_
  refine cp_X1_court (i := c9) hx hb hts hin1 hown hK hP hD hS ((hR 24 (c9)).mpr hc) (by decide +kernel) dX1_leave_12 (fun H locs hP hD hS => ?_)
  exact c_retv hx hb hr hlocks hAe hK hP hD hS dX1_leave_15 (rfl)
