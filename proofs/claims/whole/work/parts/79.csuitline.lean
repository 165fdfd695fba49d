/-! the landed program: the reader's lines -/
def cFg0 (x : cS) (t : Nat) : cS := cI (cI (cI (cI (cF x 26 t (-9) 51) 26 t 0 10950) 26 t 1 3) 26 t 2 1000) 26 t 3 0
def cFgK (x : cS) (t : Nat) : Nat → cS
  | 0 => cFg0 x t
  | k + 1 => cI (cI (cI (cI (cFgK x t k) 26 t (10 + k) 10) 26 t (20 + k) (-1)) 26 t (30 + k) 10) 26 t (40 + k) 0
def cForget (x : cS) (t : Nat) : cS := cI (cFgK x t 6) 26 t 50 (-1)
set_option maxHeartbeats 4000000 in
set_option maxRecDepth 100000 in
/-- LawText.forget -/
theorem ctX6_forget (l : Launch) (D : va_G) (y : Nat → ClassId) (ad : Nat → Nat → Nat) (x : cS) (R : List (Nat × Nat)) (qs : Nat → Nat × Nat) (nC nT : Nat) (hR : cHas R nC nT) (t : Nat) (ht : t < nT + 2) : cMv l yX6_forget wsX6_forget ({ frames := 1, cells := 0, slots := 0, locals := 23 }) D y ad x R qs [.ref (ad 25 t)] (fun x' => x' = cForget x t) := by
  refine cMv_of (cc := cX6_forget) (maxL := 2) (ret := none) (by decide) rfl (Nat.le_of_ble_eq_true rfl) ?_
  intro p e s m below meth c A ls hat hAe hl
  obtain ⟨hx, hb, hr, hml, hts, hown, hlocks, hK, hP, hD, hA, hE⟩ := hat
  have hown : s.vm.findClass RX6 = some m.cls := hown
  have hin6 : ∀ w ∈ wsX60, w ∈ wsX6_forget := fun _ h9 => List.mem_cons_of_mem _ (List.mem_append_right _ h9)
  have hl : lv_has ls 2 [(0, .ref (ad 25 t))] := hl
  have hS : va_S A s.heap s.heap [] := va_S.rf
  refine lv_aload_n hx hb dX6_forget_0 rfl (lv_at hl 0 rfl) ?_
  refine cg_X6_values (i := t) hx hb hts hin6 hown hK hP ((hR 25 (t)).mpr ht) (by decide +kernel) dX6_forget_1 ?_
  refine lv_bipush (v := (-9)) hx hb dX6_forget_4 (by decide) ?_
  refine c_scallv (As := [.ref (ad 26 t), .int (-9)]) (rest := []) ⟨hx, hb, hml, hown, hts⟩ (ctJ7_fill_53178 l D y ad x R qs nC nT hR 26 t 51 (-9) ((hR 26 t).mpr ht) (fun _ _ _ => rfl) (by omega)) (va_cwS 2 hts gX6_forget_J7_fill_53178 rfl rfl rfl (by decide +kernel) ⟨Nat.le_of_ble_eq_true rfl, Nat.le_of_ble_eq_true rfl⟩) hE hK hP hD hS hA rfl hl.1 rfl (Nat.le_of_ble_eq_true rfl) dX6_forget_6 ⟨Nat.zero_le _, Nat.zero_le _⟩ (fun xf H locs hf9 hP hD hS => ?_)
  rw [hf9] at hP hD
  refine lv_aload_n hx hb dX6_forget_9 rfl (lv_at hl 0 rfl) ?_
  refine cg_X6_values (i := t) hx hb hts hin6 hown hK hP ((hR 25 (t)).mpr ht) (by decide +kernel) dX6_forget_10 ?_
  refine lv_iconst (v := 0) hx hb dX6_forget_13 (by decide) ?_
  refine lv_sipush (v := 10950) hx hb dX6_forget_14 (by decide) ?_
  refine cs_int 26 (t) 51 hx hb hK hP hD hS ((hR 26 (t)).mpr ht) (fun _ _ _ => rfl) (show vp_in (nI 0) 51 from vp_in_nI (by omega) (by omega)) dX6_forget_17 (fun H locs hP hD hS => ?_)
  rw [show (0 : Int32).toNatClampNeg = 0 from rfl] at hP hD
  refine lv_aload_n hx hb dX6_forget_18 rfl (lv_at hl 0 rfl) ?_
  refine cg_X6_values (i := t) hx hb hts hin6 hown hK hP ((hR 25 (t)).mpr ht) (by decide +kernel) dX6_forget_19 ?_
  refine lv_iconst (v := 1) hx hb dX6_forget_22 (by decide) ?_
  refine lv_iconst (v := 3) hx hb dX6_forget_23 (by decide) ?_
  refine cs_int 26 (t) 51 hx hb hK hP hD hS ((hR 26 (t)).mpr ht) (fun _ _ _ => rfl) (show vp_in (nI 1) 51 from vp_in_nI (by omega) (by omega)) dX6_forget_24 (fun H locs hP hD hS => ?_)
  rw [show (1 : Int32).toNatClampNeg = 1 from rfl] at hP hD
  refine lv_aload_n hx hb dX6_forget_25 rfl (lv_at hl 0 rfl) ?_
  refine cg_X6_values (i := t) hx hb hts hin6 hown hK hP ((hR 25 (t)).mpr ht) (by decide +kernel) dX6_forget_26 ?_
  refine lv_iconst (v := 2) hx hb dX6_forget_29 (by decide) ?_
  refine lv_sipush (v := 1000) hx hb dX6_forget_30 (by decide) ?_
  refine cs_int 26 (t) 51 hx hb hK hP hD hS ((hR 26 (t)).mpr ht) (fun _ _ _ => rfl) (show vp_in (nI 2) 51 from vp_in_nI (by omega) (by omega)) dX6_forget_33 (fun H locs hP hD hS => ?_)
  rw [show (2 : Int32).toNatClampNeg = 2 from rfl] at hP hD
  refine lv_aload_n hx hb dX6_forget_34 rfl (lv_at hl 0 rfl) ?_
  refine cg_X6_values (i := t) hx hb hts hin6 hown hK hP ((hR 25 (t)).mpr ht) (by decide +kernel) dX6_forget_35 ?_
  refine lv_iconst (v := 3) hx hb dX6_forget_38 (by decide) ?_
  refine lv_iconst (v := 0) hx hb dX6_forget_39 (by decide) ?_
  refine cs_int 26 (t) 51 hx hb hK hP hD hS ((hR 26 (t)).mpr ht) (fun _ _ _ => rfl) (show vp_in (nI 3) 51 from vp_in_nI (by omega) (by omega)) dX6_forget_40 (fun H locs hP hD hS => ?_)
  rw [show (3 : Int32).toNatClampNeg = 3 from rfl] at hP hD
  refine lv_iconst (v := 0) hx hb dX6_forget_41 (by decide) ?_
  refine lv_istore_n (lv' := [(1, .int 0), (0, .ref (ad 25 t))]) hx hb dX6_forget_42 rfl hl (by decide) rfl (fun ls hl => ?_)
  have lp_43 : ∀ (n_43 : Nat) (j : Nat) (u : cS) (x1 : Int32), (j ≤ 6) → (6 + 1 ≤ j + n_43) → (x1 = nI j) → (u = cFgK x t j) → ∀ (H : Heap) (locs : List Loc), va_P D vwCl (cW ad y u R) H → va_D A (cW ad y u R) → va_S A s.heap H locs → ∀ (ls : Array Slot), lv_has ls 2 [(0, .ref (ad 25 t)), (1, .int x1)] → W p l e (headSpec wsX6_forget ({ frames := 1, cells := 0, slots := 0, locals := 23 })).room s m ([.ref (ad 25 t)] : List Value).toArray below meth c H locs 0 0 (MQ below (va_Qv (fun x' => x' = cForget x t) (cEnd D y ad R s.heap.size) A) ([.ref (ad 25 t)] : List Value).toArray s 0 0 A) (F0 m 43 ls []) := by
    intro n_43
    induction n_43 with
    | zero =>
      intro j u x1 hj hf ex1 hu
      exact absurd hf (by omega)
    | succ n_43 ih_43 =>
      intro j u x1 hj hf ex1 hu H locs hP hD hS ls hl
      refine lv_iload_n hx hb dX6_forget_43 rfl (lv_at hl 1 rfl) ?_
      refine lv_bipush (v := 6) hx hb dX6_forget_44 (by decide) ?_
      refine lv_icmp_ge (tgt := 97) hx hb dX6_forget_46 (by decide) (fun c_46 => ?_) (fun c_46 => ?_)
      · have hjn : j = 6 := by rw [ex1] at c_46; have := (nI_leI (a := 6) (by omega) (by omega)).mp c_46; omega
        refine lv_aload_n hx hb dX6_forget_97 rfl (lv_at hl 0 rfl) ?_
        refine cg_X6_values (i := t) hx hb hts hin6 hown hK hP ((hR 25 (t)).mpr ht) (by decide +kernel) dX6_forget_98 ?_
        refine lv_bipush (v := 50) hx hb dX6_forget_101 (by decide) ?_
        refine lv_iconst (v := (-1)) hx hb dX6_forget_103 (by decide) ?_
        refine cs_int 26 (t) 51 hx hb hK hP hD hS ((hR 26 (t)).mpr ht) (fun _ _ _ => rfl) (show vp_in (nI 50) 51 from vp_in_nI (by omega) (by omega)) dX6_forget_104 (fun H locs hP hD hS => ?_)
        rw [show (50 : Int32).toNatClampNeg = 50 from rfl] at hP hD
        exact c_retv hx hb hr hlocks hAe hK hP hD hS dX6_forget_105 (by rw [hu, hjn]; rfl)
      · have hjn : j < 6 := by rw [ex1] at c_46; exact Nat.not_le.mp (fun q9 => c_46 (nI_le (a := 6) q9 (by omega)))
        refine lv_aload_n hx hb dX6_forget_49 rfl (lv_at hl 0 rfl) ?_
        refine cg_X6_values (i := t) hx hb hts hin6 hown hK hP ((hR 25 (t)).mpr ht) (by decide +kernel) dX6_forget_50 ?_
        refine lv_bipush (v := 10) hx hb dX6_forget_53 (by decide) ?_
        refine lv_iload_n hx hb dX6_forget_55 rfl (lv_at hl 1 rfl) ?_
        refine lv_iadd hx hb dX6_forget_56 ?_
        refine lv_bipush (v := 10) hx hb dX6_forget_57 (by decide) ?_
        refine cs_int 26 (t) 51 hx hb hK hP hD hS ((hR 26 (t)).mpr ht) (fun _ _ _ => rfl) (by rw [show (10 : Int32) + x1 = nI (10 + j) from addk 10 ex1]; exact vp_in_nI (by omega) (by omega)) dX6_forget_59 (fun H locs hP hD hS => ?_)
        rw [show (10 : Int32) + x1 = nI (10 + j) from addk 10 ex1, nI_clamp (by omega)] at hP hD
        refine lv_aload_n hx hb dX6_forget_60 rfl (lv_at hl 0 rfl) ?_
        refine cg_X6_values (i := t) hx hb hts hin6 hown hK hP ((hR 25 (t)).mpr ht) (by decide +kernel) dX6_forget_61 ?_
        refine lv_bipush (v := 20) hx hb dX6_forget_64 (by decide) ?_
        refine lv_iload_n hx hb dX6_forget_66 rfl (lv_at hl 1 rfl) ?_
        refine lv_iadd hx hb dX6_forget_67 ?_
        refine lv_iconst (v := (-1)) hx hb dX6_forget_68 (by decide) ?_
        refine cs_int 26 (t) 51 hx hb hK hP hD hS ((hR 26 (t)).mpr ht) (fun _ _ _ => rfl) (by rw [show (20 : Int32) + x1 = nI (20 + j) from addk 20 ex1]; exact vp_in_nI (by omega) (by omega)) dX6_forget_69 (fun H locs hP hD hS => ?_)
        rw [show (20 : Int32) + x1 = nI (20 + j) from addk 20 ex1, nI_clamp (by omega)] at hP hD
        refine lv_aload_n hx hb dX6_forget_70 rfl (lv_at hl 0 rfl) ?_
        refine cg_X6_values (i := t) hx hb hts hin6 hown hK hP ((hR 25 (t)).mpr ht) (by decide +kernel) dX6_forget_71 ?_
        refine lv_bipush (v := 30) hx hb dX6_forget_74 (by decide) ?_
        refine lv_iload_n hx hb dX6_forget_76 rfl (lv_at hl 1 rfl) ?_
        refine lv_iadd hx hb dX6_forget_77 ?_
        refine lv_bipush (v := 10) hx hb dX6_forget_78 (by decide) ?_
        refine cs_int 26 (t) 51 hx hb hK hP hD hS ((hR 26 (t)).mpr ht) (fun _ _ _ => rfl) (by rw [show (30 : Int32) + x1 = nI (30 + j) from addk 30 ex1]; exact vp_in_nI (by omega) (by omega)) dX6_forget_80 (fun H locs hP hD hS => ?_)
        rw [show (30 : Int32) + x1 = nI (30 + j) from addk 30 ex1, nI_clamp (by omega)] at hP hD
        refine lv_aload_n hx hb dX6_forget_81 rfl (lv_at hl 0 rfl) ?_
        refine cg_X6_values (i := t) hx hb hts hin6 hown hK hP ((hR 25 (t)).mpr ht) (by decide +kernel) dX6_forget_82 ?_
        refine lv_bipush (v := 40) hx hb dX6_forget_85 (by decide) ?_
        refine lv_iload_n hx hb dX6_forget_87 rfl (lv_at hl 1 rfl) ?_
        refine lv_iadd hx hb dX6_forget_88 ?_
        refine lv_iconst (v := 0) hx hb dX6_forget_89 (by decide) ?_
        refine cs_int 26 (t) 51 hx hb hK hP hD hS ((hR 26 (t)).mpr ht) (fun _ _ _ => rfl) (by rw [show (40 : Int32) + x1 = nI (40 + j) from addk 40 ex1]; exact vp_in_nI (by omega) (by omega)) dX6_forget_90 (fun H locs hP hD hS => ?_)
        rw [show (40 : Int32) + x1 = nI (40 + j) from addk 40 ex1, nI_clamp (by omega)] at hP hD
        obtain ⟨x1_1, ex1_1⟩ : ∃ z : Int32, z = x1 + 1 := ⟨_, rfl⟩
        refine lv_iinc (v := x1_1) (lv' := [(1, .int x1_1), (0, .ref (ad 25 t))]) hx hb dX6_forget_91 hl (k := 1) rfl (by rw [ex1_1]; rfl) (by decide) rfl (fun ls hl => ?_)
        refine lv_goto (tgt := 43) hx hb dX6_forget_94 (by decide) ?_
        exact ih_43 (j + 1) _ _ (by omega) (by omega) (by rw [ex1_1, ex1]; exact nI_1 _) (by rw [hu, cFgK]) _ _ hP hD hS _ (lv_sub hl [1, 0] rfl)
  exact lp_43 7 0 _ _ (Nat.zero_le _) (by omega) rfl rfl _ _ hP hD hS _ (lv_sub hl [1, 0] rfl)
def cStart (x : cS) : cS := cI (cI (cI (cF (cF (cForget x 0) 4 0 0 4) 5 0 0 6) 3 0 4 0) 3 0 5 (-1)) 3 0 8 0
set_option maxHeartbeats 4000000 in
set_option maxRecDepth 100000 in
/-- LawReader.startAnew -/
theorem ctX5_startAnew (l : Launch) (D : va_G) (y : Nat → ClassId) (ad : Nat → Nat → Nat) (x : cS) (R : List (Nat × Nat)) (qs : Nat → Nat × Nat) (nC nT : Nat) (hR : cHas R nC nT) : cMv l yX5_startAnew wsX5_startAnew ({ frames := 2, cells := 0, slots := 0, locals := 44 }) D y ad x R qs [.ref (ad 3 0)] (fun x' => x' = cStart x) := by
  refine cMv_of (cc := cX5_startAnew) (maxL := 2) (ret := none) (by decide) rfl (Nat.le_of_ble_eq_true rfl) ?_
  intro p e s m below meth c A ls hat hAe hl
  obtain ⟨hx, hb, hr, hml, hts, hown, hlocks, hK, hP, hD, hA, hE⟩ := hat
  have hown : s.vm.findClass RX5 = some m.cls := hown
  have hin5 : ∀ w ∈ wsX50, w ∈ wsX5_startAnew := fun _ h9 => List.mem_cons_of_mem _ (List.mem_append_left _ (List.mem_append_right _ h9))
  have hin6 : ∀ w ∈ wsX60, w ∈ wsX5_startAnew := fun _ h9 => List.mem_cons_of_mem _ (List.mem_append_right _ h9)
  have hl : lv_has ls 2 [(0, .ref (ad 3 0))] := hl
  have hS : va_S A s.heap s.heap [] := va_S.rf
  refine lv_aload_n hx hb dX5_startAnew_0 rfl (lv_at hl 0 rfl) ?_
  refine cg_X5_draft (i := 0) hx hb hts hin5 hown hK hP ((hR 3 (0)).mpr Nat.zero_lt_one) (by decide +kernel) dX5_startAnew_1 ?_
  refine c_callv (ci := 6) (q := (RX6, TX6, 2)) (κ := 25) (i := 0) (As := []) (rest := []) ⟨hx, hb, hml, hown, hts⟩ (ctX6_forget l D y ad x R qs nC nT hR 0 (Nat.zero_lt_succ _)) (cwV 0 hts gX5_startAnew_X6_forget rfl rfl rfl (by decide +kernel) ⟨Nat.le_of_ble_eq_true rfl, Nat.le_of_ble_eq_true rfl⟩) ((hR 25 (0)).mpr (Nat.zero_lt_succ _)) (fun _ _ _ => ⟨_, rfl⟩) rfl hE hK hP hD hS hA rfl hl.1 rfl (Nat.le_of_ble_eq_true rfl) dX5_startAnew_4 ⟨Nat.zero_le _, Nat.zero_le _⟩ (fun xf H locs hf9 hP hD hS => ?_)
  refine lv_iconst (v := 0) hx hb dX5_startAnew_7 (by decide) ?_
  refine lv_istore_n (lv' := [(1, .int 0), (0, .ref (ad 3 0))]) hx hb dX5_startAnew_8 rfl hl (by decide) rfl (fun ls hl => ?_)
  have lp_9 : ∀ (n_9 : Nat) (j : Nat) (u9 : cS) (x1 : Int32), (j ≤ 4) → (4 + 1 ≤ j + n_9) → (x1 = nI j) → (u9 = cF (xf) 4 0 0 j) → ∀ (H : Heap) (locs : List Loc), va_P D vwCl (cW ad y u9 R) H → va_D A (cW ad y u9 R) → va_S A s.heap H locs → ∀ (ls : Array Slot), lv_has ls 2 [(0, .ref (ad 3 0)), (1, .int x1)] → W p l e (headSpec wsX5_startAnew ({ frames := 2, cells := 0, slots := 0, locals := 44 })).room s m ([.ref (ad 3 0)] : List Value).toArray below meth c H locs 0 0 (MQ below (va_Qv (fun x' => x' = cStart x) (cEnd D y ad R s.heap.size) A) ([.ref (ad 3 0)] : List Value).toArray s 0 0 A) (F0 m 9 ls []) := by
    intro n_9
    induction n_9 with
    | zero =>
      intro j u9 x1 hj hf ex1 hu9
      exact absurd hf (by omega)
    | succ n_9 ih_9 =>
      intro j u9 x1 hj hf ex1 hu9 H locs hP hD hS ls hl
      refine lv_iload_n hx hb dX5_startAnew_9 rfl (lv_at hl 1 rfl) ?_
      refine lv_aload_n hx hb dX5_startAnew_10 rfl (lv_at hl 0 rfl) ?_
      refine cg_X5_told (i := 0) hx hb hts hin5 hown hK hP ((hR 3 (0)).mpr Nat.zero_lt_one) (by decide +kernel) dX5_startAnew_11 ?_
      refine c_len (t0 := 2) 4 (0) hx hb hK hP ((hR 4 (0)).mpr Nat.zero_lt_one) rfl rfl dX5_startAnew_14 ?_
      refine lv_icmp_ge (tgt := 31) hx hb dX5_startAnew_15 (by decide) (fun c_15 => ?_) (fun c_15 => ?_)
      · have hjn : j = 4 := by rw [ex1] at c_15; have := (nI_leI (a := 4) (by omega) (by omega)).mp c_15; omega
        refine lv_iconst (v := 0) hx hb dX5_startAnew_31 (by decide) ?_
        refine lv_istore_n (lv' := [(1, .int 0), (0, .ref (ad 3 0))]) hx hb dX5_startAnew_32 rfl hl (by decide) rfl (fun ls hl => ?_)
        have lp_33 : ∀ (n_33 : Nat) (j : Nat) (u33 : cS) (x1 : Int32), (j ≤ 6) → (6 + 1 ≤ j + n_33) → (x1 = nI j) → (u33 = cF (u9) 5 0 0 j) → ∀ (H : Heap) (locs : List Loc), va_P D vwCl (cW ad y u33 R) H → va_D A (cW ad y u33 R) → va_S A s.heap H locs → ∀ (ls : Array Slot), lv_has ls 2 [(0, .ref (ad 3 0)), (1, .int x1)] → W p l e (headSpec wsX5_startAnew ({ frames := 2, cells := 0, slots := 0, locals := 44 })).room s m ([.ref (ad 3 0)] : List Value).toArray below meth c H locs 0 0 (MQ below (va_Qv (fun x' => x' = cStart x) (cEnd D y ad R s.heap.size) A) ([.ref (ad 3 0)] : List Value).toArray s 0 0 A) (F0 m 33 ls []) := by
          intro n_33
          induction n_33 with
          | zero =>
            intro j u33 x1 hj hf ex1 hu33
            exact absurd hf (by omega)
          | succ n_33 ih_33 =>
            intro j u33 x1 hj hf ex1 hu33 H locs hP hD hS ls hl
            refine lv_iload_n hx hb dX5_startAnew_33 rfl (lv_at hl 1 rfl) ?_
            refine lv_aload_n hx hb dX5_startAnew_34 rfl (lv_at hl 0 rfl) ?_
            refine cg_X5_toldSuits (i := 0) hx hb hts hin5 hown hK hP ((hR 3 (0)).mpr Nat.zero_lt_one) (by decide +kernel) dX5_startAnew_35 ?_
            refine c_len (t0 := 2) 5 (0) hx hb hK hP ((hR 5 (0)).mpr Nat.zero_lt_one) rfl rfl dX5_startAnew_38 ?_
            refine lv_icmp_ge (tgt := 55) hx hb dX5_startAnew_39 (by decide) (fun c_39 => ?_) (fun c_39 => ?_)
            · have hjm : j = 6 := by rw [ex1] at c_39; have := (nI_leI (a := 6) (by omega) (by omega)).mp c_39; omega
              refine lv_aload_n hx hb dX5_startAnew_55 rfl (lv_at hl 0 rfl) ?_
              refine lv_iconst (v := 0) hx hb dX5_startAnew_56 (by decide) ?_
              refine cp_X5_faultKind (i := 0) hx hb hts hin5 hown hK hP hD hS ((hR 3 (0)).mpr Nat.zero_lt_one) (by decide +kernel) dX5_startAnew_57 (fun H locs hP hD hS => ?_)
              refine lv_aload_n hx hb dX5_startAnew_60 rfl (lv_at hl 0 rfl) ?_
              refine lv_iconst (v := (-1)) hx hb dX5_startAnew_61 (by decide) ?_
              refine cp_X5_faultPlace (i := 0) hx hb hts hin5 hown hK hP hD hS ((hR 3 (0)).mpr Nat.zero_lt_one) (by decide +kernel) dX5_startAnew_62 (fun H locs hP hD hS => ?_)
              refine lv_aload_n hx hb dX5_startAnew_65 rfl (lv_at hl 0 rfl) ?_
              refine lv_iconst (v := 0) hx hb dX5_startAnew_66 (by decide) ?_
              refine cp_X5_next (i := 0) hx hb hts hin5 hown hK hP hD hS ((hR 3 (0)).mpr Nat.zero_lt_one) (by decide +kernel) dX5_startAnew_67 (fun H locs hP hD hS => ?_)
              exact c_retv hx hb hr hlocks hAe hK hP hD hS dX5_startAnew_70 (by rw [hu33, hjm, hu9, hjn, hf9]; rfl)
            · have hjm : j < 6 := by rw [ex1] at c_39; exact Nat.not_le.mp (fun q9 => c_39 (nI_le (a := 6) q9 (by omega)))
              refine lv_aload_n hx hb dX5_startAnew_42 rfl (lv_at hl 0 rfl) ?_
              refine cg_X5_toldSuits (i := 0) hx hb hts hin5 hown hK hP ((hR 3 (0)).mpr Nat.zero_lt_one) (by decide +kernel) dX5_startAnew_43 ?_
              refine lv_iload_n hx hb dX5_startAnew_46 rfl (lv_at hl 1 rfl) ?_
              refine lv_iconst (v := 0) hx hb dX5_startAnew_47 (by decide) ?_
              refine cs_bool 5 (0) 6 hx hb hK hP hD hS ((hR 5 (0)).mpr Nat.zero_lt_one) (fun _ _ _ => rfl) (by rw [ex1]; exact vp_in_nI hjm (by omega)) dX5_startAnew_48 (fun H locs hP hD hS => ?_)
              rw [nar0, ex1, nI_clamp (by omega)] at hP hD
              obtain ⟨x1_1, ex1_1⟩ : ∃ z : Int32, z = x1 + 1 := ⟨_, rfl⟩
              refine lv_iinc (v := x1_1) (lv' := [(1, .int x1_1), (0, .ref (ad 3 0))]) hx hb dX5_startAnew_49 hl (k := 1) rfl (by rw [ex1_1]; rfl) (by decide) rfl (fun ls hl => ?_)
              refine lv_goto (tgt := 33) hx hb dX5_startAnew_52 (by decide) ?_
              exact ih_33 (j + 1) _ _ (by omega) (by omega) (by rw [ex1_1, ex1]; exact nI_1 _) (by rw [hu33, cF_s]) _ _ hP hD hS _ (lv_sub hl [1, 0] rfl)
        exact lp_33 7 0 _ _ (Nat.zero_le _) (by omega) rfl ((cF_0 _ _ _ _).symm) _ _ hP hD hS _ (lv_sub hl [1, 0] rfl)
      · have hjn : j < 4 := by rw [ex1] at c_15; exact Nat.not_le.mp (fun q9 => c_15 (nI_le (a := 4) q9 (by omega)))
        refine lv_aload_n hx hb dX5_startAnew_18 rfl (lv_at hl 0 rfl) ?_
        refine cg_X5_told (i := 0) hx hb hts hin5 hown hK hP ((hR 3 (0)).mpr Nat.zero_lt_one) (by decide +kernel) dX5_startAnew_19 ?_
        refine lv_iload_n hx hb dX5_startAnew_22 rfl (lv_at hl 1 rfl) ?_
        refine lv_iconst (v := 0) hx hb dX5_startAnew_23 (by decide) ?_
        refine cs_bool 4 (0) 4 hx hb hK hP hD hS ((hR 4 (0)).mpr Nat.zero_lt_one) (fun _ _ _ => rfl) (by rw [ex1]; exact vp_in_nI hjn (by omega)) dX5_startAnew_24 (fun H locs hP hD hS => ?_)
        rw [nar0, ex1, nI_clamp (by omega)] at hP hD
        obtain ⟨x1_2, ex1_2⟩ : ∃ z : Int32, z = x1 + 1 := ⟨_, rfl⟩
        refine lv_iinc (v := x1_2) (lv' := [(1, .int x1_2), (0, .ref (ad 3 0))]) hx hb dX5_startAnew_25 hl (k := 1) rfl (by rw [ex1_2]; rfl) (by decide) rfl (fun ls hl => ?_)
        refine lv_goto (tgt := 9) hx hb dX5_startAnew_28 (by decide) ?_
        exact ih_9 (j + 1) _ _ (by omega) (by omega) (by rw [ex1_2, ex1]; exact nI_1 _) (by rw [hu9, cF_s]) _ _ hP hD hS _ (lv_sub hl [1, 0] rfl)
  exact lp_9 5 0 _ _ (Nat.zero_le _) (by omega) rfl ((cF_0 _ _ _ _).symm) _ _ hP hD hS _ (lv_sub hl [1, 0] rfl)
theorem cbnd_0 {X : Int32 × cS} {f : cS → Int32 × cS} {r : Int32} {x' : cS} (h : (r, x') = X) (hr : r = 0) : cbnd X f = (0, x') := by rw [← h, cbnd, if_pos hr]
theorem cbnd_1 {X : Int32 × cS} {f : cS → Int32 × cS} {r : Int32} {x' : cS} (h : (r, x') = X) (hr : ¬ r = 0) : cbnd X f = f x' := by rw [← h, cbnd, if_neg hr]
def rdE (u q : Nat) (c : cS) : Int32 × cS := cbnd (tkW u 9 c) (fun d => cbnd (tkN u (40 + q) d) (fun e => (1, e)))
def rdO (u q : Nat) (b : cS) : Int32 × cS := cbnd (tkN u (20 + q) (cAdv b u)) (fun c => cbnd (tkW u 7 c) (fun d => cbnd (tkN u (30 + q) d) (rdE u q)))
def rdD (u q : Nat) (b : cS) : Int32 × cS := if cIsW u b 8 then rdO u q b else rdE u q b
def rdW (q : Nat) (b : cS) : cS := cI b 26 0 (30 + q) (b.1 26 0 (10 + q))
def rdB (u q : Nat) (a : cS) : Int32 × cS := cbnd (tkW u 7 a) (fun b => cbnd (tkN u (10 + q) b) (fun c => rdD u q (rdW q c)))
def rdA (u : Nat) (kx : Int32 × cS) : Int32 × cS := if kx.1 = -1 then (0, kx.2) else rdB u (sI kx.1) kx.2
def rdS (u : Nat) (x : cS) : Int32 × cS := rdA u (tkK u x)
theorem tkK_1 {u : Nat} {x x' : cS} {k : Int32} (h : cRU u x) (e : (k, x') = tkK u x) (hk : ¬ k = -1) : isC 6 k = true ∧ cRU u x' := by
  unfold tkK at e
  split at e
  · split at e
    · rename_i h1
      split at e
      · rw [(Prod.mk.inj e).1, (Prod.mk.inj e).2]; exact ⟨h1, cAdv_RU (x := cI x 5 0 (sI (x.1 3 0 9)) 1) h⟩
      · exact absurd (Prod.mk.inj e).1 hk
    · exact absurd (Prod.mk.inj e).1 hk
  · exact absurd (Prod.mk.inj e).1 hk
set_option maxHeartbeats 4000000 in
set_option maxRecDepth 100000 in
/-- LawReader.readSuit -/
theorem ctX5_readSuit (l : Launch) (D : va_G) (y : Nat → ClassId) (ad : Nat → Nat → Nat) (x : cS) (R : List (Nat × Nat)) (qs : Nat → Nat × Nat) (nC nT : Nat) (hR : cHas R nC nT) (u : Nat) (h : cRU u x) : cMi l yX5_readSuit wsX5_readSuit ({ frames := 7, cells := 0, slots := 0, locals := 149 }) D y ad x R qs [.ref (ad 3 0)] (fun r x' => (r, x') = rdS u x) := by
  refine cMi_of (cc := cX5_readSuit) (maxL := 2) (ret := (some .boolean)) (by decide) rfl (Nat.le_of_ble_eq_true rfl) ?_
  intro p e s m below meth c A ls hat hAe hl
  obtain ⟨hx, hb, hr, hml, hts, hown, hlocks, hK, hP, hD, hA, hE⟩ := hat
  have hown : s.vm.findClass RX5 = some m.cls := hown
  have hin5 : ∀ w ∈ wsX50, w ∈ wsX5_readSuit := fun _ h9 => List.mem_cons_of_mem _ (List.mem_append_left _ (List.mem_append_left _ (List.mem_append_right _ h9)))
  have hin8 : ∀ w ∈ wsX80, w ∈ wsX5_readSuit := fun _ h9 => List.mem_cons_of_mem _ (List.mem_append_left _ (List.mem_append_right _ h9))
  have hin6 : ∀ w ∈ wsX60, w ∈ wsX5_readSuit := fun _ h9 => List.mem_cons_of_mem _ (List.mem_append_right _ h9)
  have hl : lv_has ls 2 [(0, .ref (ad 3 0))] := hl
  have hS : va_S A s.heap s.heap [] := va_S.rf
  refine lv_aload_n hx hb dX5_readSuit_0 rfl (lv_at hl 0 rfl) ?_
  refine c_calli (ci := 5) (q := (RX5, TX5, 10)) (κ := 3) (i := 0) (As := []) (rest := []) ⟨hx, hb, hml, hown, hts⟩ (ctX5_takeKind l D y ad x R qs nC nT hR u h) (cwV 0 hts gX5_readSuit_X5_takeKind rfl rfl rfl (by decide +kernel) ⟨Nat.le_of_ble_eq_true rfl, Nat.le_of_ble_eq_true rfl⟩) ((hR 3 (0)).mpr Nat.zero_lt_one) (fun _ _ _ => ⟨_, rfl⟩) rfl hE hK hP hD hS hA rfl hl.1 rfl (Nat.le_of_ble_eq_true rfl) dX5_readSuit_1 ⟨Nat.zero_le _, Nat.zero_le _⟩ (fun k1 x1 H locs h1 hP hD hS => ?_)
  refine lv_istore_n (lv' := [(1, .int k1), (0, .ref (ad 3 0))]) hx hb dX5_readSuit_4 rfl hl (by decide) rfl (fun ls hl => ?_)
  refine lv_iload_n hx hb dX5_readSuit_5 rfl (lv_at hl 0 rfl) ?_
  refine lv_iconst (v := (-1)) hx hb dX5_readSuit_6 (by decide) ?_
  refine lv_icmp_ne (tgt := 12) hx hb dX5_readSuit_7 (by decide) (fun c_7 => ?_) (fun c_7 => ?_)
  · obtain ⟨gk, g1⟩ := tkK_1 h h1 c_7
    obtain ⟨q, hq6, ek⟩ := (inR_c (n := 6) (by omega)).mp gk
    have hsk : sI k1 = q := by rw [ek]; exact nI_clamp (by omega)
    refine lv_aload_n hx hb dX5_readSuit_12 rfl (lv_at hl 1 rfl) ?_
    refine va_ldcS hx hb hown (show vk_R RX5 94 "water" (qs 7).1 s from (hE.2 7 (by omega)).2) dX5_readSuit_13 ?_
    refine c_calli (ci := 5) (q := (RX5, TX5, 10)) (κ := 3) (i := 0) (As := [.ref ((qs 7).1)]) (rest := []) ⟨hx, hb, hml, hown, hts⟩ (ctX5_takeWord l D y ad x1 R qs nC nT hR u 7 g1 (by omega)) (cwV 1 hts gX5_readSuit_X5_takeWord rfl rfl rfl (by decide +kernel) ⟨Nat.le_of_ble_eq_true rfl, Nat.le_of_ble_eq_true rfl⟩) ((hR 3 (0)).mpr Nat.zero_lt_one) (fun _ _ _ => ⟨_, rfl⟩) rfl hE hK hP hD hS hA rfl hl.1 rfl (Nat.le_of_ble_eq_true rfl) dX5_readSuit_15 ⟨Nat.zero_le _, Nat.zero_le _⟩ (fun r2 x2 H locs h2 hP hD hS => ?_)
    refine lv_if_eq (tgt := 32) hx hb dX5_readSuit_18 (by decide) (fun c_18 => ?_) (fun c_18 => ?_)
    · refine lv_iconst (v := 0) hx hb dX5_readSuit_32 (by decide) ?_
      exact c_reti hx hb hr hlocks hAe hK hP hD hS (by first | rfl | decide) dX5_readSuit_33 (by rw [rdS, ← h1, rdA, if_neg c_7, rdB, cbnd_0 h2 c_18])
    · have g2 := tkW_1 g1 h2 c_18
      refine lv_aload_n hx hb dX5_readSuit_21 rfl (lv_at hl 1 rfl) ?_
      refine lv_bipush (v := 10) hx hb dX5_readSuit_22 (by decide) ?_
      refine lv_iload_n hx hb dX5_readSuit_24 rfl (lv_at hl 0 rfl) ?_
      refine lv_iadd hx hb dX5_readSuit_25 ?_
      refine c_calli (ci := 5) (q := (RX5, TX5, 10)) (κ := 3) (i := 0) (As := [.int ((10) + (k1))]) (rest := []) ⟨hx, hb, hml, hown, hts⟩ (ctX5_takeNumber l D y ad x2 R qs nC nT hR u (10 + q) _ g2 (addk 10 ek : (10 : Int32) + k1 = nI (10 + q)) (by omega)) (cwV 1 hts gX5_readSuit_X5_takeNumber rfl rfl rfl (by decide +kernel) ⟨Nat.le_of_ble_eq_true rfl, Nat.le_of_ble_eq_true rfl⟩) ((hR 3 (0)).mpr Nat.zero_lt_one) (fun _ _ _ => ⟨_, rfl⟩) rfl hE hK hP hD hS hA rfl hl.1 rfl (Nat.le_of_ble_eq_true rfl) dX5_readSuit_26 ⟨Nat.zero_le _, Nat.zero_le _⟩ (fun r3 x3 H locs h3 hP hD hS => ?_)
      refine lv_if_ne (tgt := 34) hx hb dX5_readSuit_29 (by decide) (fun c_29 => ?_) (fun c_29 => ?_)
      · have g3 := tkN_1 g2 h3 c_29
        have g4 : cRU u (rdW q x3) := g3
        refine lv_aload_n hx hb dX5_readSuit_34 rfl (lv_at hl 1 rfl) ?_
        refine cg_X5_draft (i := 0) hx hb hts hin5 hown hK hP ((hR 3 (0)).mpr Nat.zero_lt_one) (by decide +kernel) dX5_readSuit_35 ?_
        refine lv_bipush (v := 30) hx hb dX5_readSuit_38 (by decide) ?_
        refine lv_iload_n hx hb dX5_readSuit_40 rfl (lv_at hl 0 rfl) ?_
        refine lv_iadd hx hb dX5_readSuit_41 ?_
        refine lv_aload_n hx hb dX5_readSuit_42 rfl (lv_at hl 1 rfl) ?_
        refine cg_X5_draft (i := 0) hx hb hts hin5 hown hK hP ((hR 3 (0)).mpr Nat.zero_lt_one) (by decide +kernel) dX5_readSuit_43 ?_
        refine lv_bipush (v := 10) hx hb dX5_readSuit_46 (by decide) ?_
        refine lv_iload_n hx hb dX5_readSuit_48 rfl (lv_at hl 0 rfl) ?_
        refine lv_iadd hx hb dX5_readSuit_49 ?_
        refine c_callip (ci := 6) (q := (RX6, TX6, 2)) (κ := 25) (i := 0) (As := [.int (10 + k1)]) (rest := [.int ((30) + (k1)), .ref (ad 25 0)]) ⟨hx, hb, hml, hown, hts⟩ (ctX6_answer l D y ad x3 R qs nC nT hR 0 (10 + k1) (Nat.zero_lt_succ _)) (cwV 1 hts gX5_readSuit_X6_answer rfl rfl rfl (by decide +kernel) ⟨Nat.le_of_ble_eq_true rfl, Nat.le_of_ble_eq_true rfl⟩) ((hR 25 (0)).mpr (Nat.zero_lt_succ _)) (fun _ _ _ => ⟨_, rfl⟩) rfl hE hK hP hD hS hA rfl hl.1 rfl (Nat.le_of_ble_eq_true rfl) dX5_readSuit_50 ⟨Nat.zero_le _, Nat.zero_le _⟩ (fun H locs hP hD hS => ?_)
        rw [show cAns x3 0 (10 + k1) = x3.1 26 0 (10 + q) by rw [show (10 : Int32) + k1 = nI (10 + q) from addk 10 ek]; exact cAns_k x3 0 (by omega)]
        refine c_callv (ci := 6) (q := (RX6, TX6, 2)) (κ := 25) (i := 0) (As := [.int (30 + k1), .int (x3.1 26 0 (10 + q))]) (rest := []) ⟨hx, hb, hml, hown, hts⟩ (ctX6_tell l D y ad x3 R qs nC nT hR 0 (30 + k1) (x3.1 26 0 (10 + q)) (Nat.zero_lt_succ _)) (cwV 2 hts gX5_readSuit_X6_tell rfl rfl rfl (by decide +kernel) ⟨Nat.le_of_ble_eq_true rfl, Nat.le_of_ble_eq_true rfl⟩) ((hR 25 (0)).mpr (Nat.zero_lt_succ _)) (fun _ _ _ => ⟨_, rfl⟩) rfl hE hK hP hD hS hA rfl hl.1 rfl (Nat.le_of_ble_eq_true rfl) dX5_readSuit_53 ⟨Nat.zero_le _, Nat.zero_le _⟩ (fun xt9 H locs ht9 hP hD hS => ?_)
        rw [ht9, show (30 : Int32) + k1 = nI (30 + q) from addk 30 ek, cTell_k x3 0 _ (by omega)] at hP hD
        have hP : va_P D vwCl (cW ad y (rdW q x3) R) H := hP
        have hD : va_D A (cW ad y (rdW q x3) R) := hD
        have hres : rdS u x = rdD u q (rdW q x3) := by rw [rdS, ← h1, rdA, if_neg c_7, rdB, cbnd_1 h2 c_18, show sI (k1, x1).1 = q from hsk, cbnd_1 h3 c_29]
        have j_102 : ∀ (xs : cS), (cRU u xs) → (rdD u q (rdW q x3) = rdE u q xs) → ∀ (H : Heap) (locs : List Loc), va_P D vwCl (cW ad y xs R) H → va_D A (cW ad y xs R) → va_S A s.heap H locs → ∀ (ls : Array Slot), lv_has ls 2 [(0, .ref (ad 3 0)), (1, .int k1)] → W p l e (headSpec wsX5_readSuit ({ frames := 7, cells := 0, slots := 0, locals := 149 })).room s m ([.ref (ad 3 0)] : List Value).toArray below meth c H locs 0 0 (MQ below (va_Qi (fun r x' => (r, x') = rdS u x) (cEnd D y ad R s.heap.size) A) ([.ref (ad 3 0)] : List Value).toArray s 0 0 A) (F0 m 102 ls []) := by
          intro xs gs hs9 H locs hP hD hS ls hl
          refine lv_aload_n hx hb dX5_readSuit_102 rfl (lv_at hl 0 rfl) ?_
          refine va_ldcS hx hb hown (show vk_R RX5 106 "fine" (qs 9).1 s from (hE.2 9 (by omega)).2) dX5_readSuit_103 ?_
          refine c_calli (ci := 5) (q := (RX5, TX5, 10)) (κ := 3) (i := 0) (As := [.ref ((qs 9).1)]) (rest := []) ⟨hx, hb, hml, hown, hts⟩ (ctX5_takeWord l D y ad xs R qs nC nT hR u 9 gs (by omega)) (cwV 1 hts gX5_readSuit_X5_takeWord rfl rfl rfl (by decide +kernel) ⟨Nat.le_of_ble_eq_true rfl, Nat.le_of_ble_eq_true rfl⟩) ((hR 3 (0)).mpr Nat.zero_lt_one) (fun _ _ _ => ⟨_, rfl⟩) rfl hE hK hP hD hS hA rfl hl.1 rfl (Nat.le_of_ble_eq_true rfl) dX5_readSuit_105 ⟨Nat.zero_le _, Nat.zero_le _⟩ (fun r9 x9 H locs h9 hP hD hS => ?_)
          refine lv_if_eq (tgt := 126) hx hb dX5_readSuit_108 (by decide) (fun c_108 => ?_) (fun c_108 => ?_)
          · refine lv_iconst (v := 0) hx hb dX5_readSuit_126 (by decide) ?_
            exact c_reti hx hb hr hlocks hAe hK hP hD hS (by first | rfl | decide) dX5_readSuit_127 (by rw [hres, hs9, rdE, cbnd_0 h9 c_108])
          · have g9 := tkW_1 gs h9 c_108
            refine lv_aload_n hx hb dX5_readSuit_111 rfl (lv_at hl 0 rfl) ?_
            refine lv_bipush (v := 40) hx hb dX5_readSuit_112 (by decide) ?_
            refine lv_iload_n hx hb dX5_readSuit_114 rfl (lv_at hl 1 rfl) ?_
            refine lv_iadd hx hb dX5_readSuit_115 ?_
            refine c_calli (ci := 5) (q := (RX5, TX5, 10)) (κ := 3) (i := 0) (As := [.int ((40) + (k1))]) (rest := []) ⟨hx, hb, hml, hown, hts⟩ (ctX5_takeNumber l D y ad x9 R qs nC nT hR u (40 + q) _ g9 (addk 40 ek : (40 : Int32) + k1 = nI (40 + q)) (by omega)) (cwV 1 hts gX5_readSuit_X5_takeNumber rfl rfl rfl (by decide +kernel) ⟨Nat.le_of_ble_eq_true rfl, Nat.le_of_ble_eq_true rfl⟩) ((hR 3 (0)).mpr Nat.zero_lt_one) (fun _ _ _ => ⟨_, rfl⟩) rfl hE hK hP hD hS hA rfl hl.1 rfl (Nat.le_of_ble_eq_true rfl) dX5_readSuit_116 ⟨Nat.zero_le _, Nat.zero_le _⟩ (fun r10 x10 H locs h10 hP hD hS => ?_)
            refine lv_if_eq (tgt := 126) hx hb dX5_readSuit_119 (by decide) (fun c_119 => ?_) (fun c_119 => ?_)
            · refine lv_iconst (v := 0) hx hb dX5_readSuit_126 (by decide) ?_
              exact c_reti hx hb hr hlocks hAe hK hP hD hS (by first | rfl | decide) dX5_readSuit_127 (by rw [hres, hs9, rdE, cbnd_1 h9 c_108, cbnd_0 h10 c_119])
            · refine lv_iconst (v := 1) hx hb dX5_readSuit_122 (by decide) ?_
              refine lv_goto (tgt := 127) hx hb dX5_readSuit_123 (by decide) ?_
              exact c_reti hx hb hr hlocks hAe hK hP hD hS (by first | rfl | decide) dX5_readSuit_127 (by rw [hres, hs9, rdE, cbnd_1 h9 c_108, cbnd_1 h10 c_119])
        refine lv_aload_n hx hb dX5_readSuit_56 rfl (lv_at hl 1 rfl) ?_
        refine va_ldcS hx hb hown (show vk_R RX5 104 "over" (qs 8).1 s from (hE.2 8 (by omega)).2) dX5_readSuit_57 ?_
        refine c_callip (ci := 5) (q := (RX5, TX5, 10)) (κ := 3) (i := 0) (As := [.ref ((qs 8).1)]) (rest := []) ⟨hx, hb, hml, hown, hts⟩ (ctX5_isWord l D y ad (rdW q x3) R qs nC nT hR u 8 g4.1 g4.2.1 g4.2.2 (by omega)) (cwV 1 hts gX5_readSuit_X5_isWord rfl rfl rfl (by decide +kernel) ⟨Nat.le_of_ble_eq_true rfl, Nat.le_of_ble_eq_true rfl⟩) ((hR 3 (0)).mpr Nat.zero_lt_one) (fun _ _ _ => ⟨_, rfl⟩) rfl hE hK hP hD hS hA rfl hl.1 rfl (Nat.le_of_ble_eq_true rfl) dX5_readSuit_59 ⟨Nat.zero_le _, Nat.zero_le _⟩ (fun H locs hP hD hS => ?_)
        refine lv_if_eq (tgt := 102) hx hb dX5_readSuit_62 (by decide) (fun c_62 => ?_) (fun c_62 => ?_)
        · have b64 : cIsW u (rdW q x3) 8 = false := (zI_eq _).mp c_62
          exact j_102 _ g4 (by rw [rdD, if_neg (by rw [b64]; decide)]) _ _ hP hD hS _ (lv_sub hl [1, 0] rfl)
        · have b64 : cIsW u (rdW q x3) 8 = true := (zI_ne _).mp c_62
          refine lv_aload_n hx hb dX5_readSuit_65 rfl (lv_at hl 1 rfl) ?_
          refine c_callv (ci := 5) (q := (RX5, TX5, 10)) (κ := 3) (i := 0) (As := []) (rest := []) ⟨hx, hb, hml, hown, hts⟩ (ctX5_advance l D y ad (rdW q x3) R qs nC nT hR u (sI ((rdW q x3).1 3 0 8)) g4.1 g4.2.1 g4.2.2.2.1 g4.2.2.2.2.2) (cwV 0 hts gX5_readSuit_X5_advance rfl rfl rfl (by decide +kernel) ⟨Nat.le_of_ble_eq_true rfl, Nat.le_of_ble_eq_true rfl⟩) ((hR 3 (0)).mpr Nat.zero_lt_one) (fun _ _ _ => ⟨_, rfl⟩) rfl hE hK hP hD hS hA rfl hl.1 rfl (Nat.le_of_ble_eq_true rfl) dX5_readSuit_66 ⟨Nat.zero_le _, Nat.zero_le _⟩ (fun x5 H locs h5 hP hD hS => ?_)
          have g5 : cRU u x5 := by rw [h5]; exact cAdv_RU g4
          refine lv_aload_n hx hb dX5_readSuit_69 rfl (lv_at hl 1 rfl) ?_
          refine lv_bipush (v := 20) hx hb dX5_readSuit_70 (by decide) ?_
          refine lv_iload_n hx hb dX5_readSuit_72 rfl (lv_at hl 0 rfl) ?_
          refine lv_iadd hx hb dX5_readSuit_73 ?_
          refine c_calli (ci := 5) (q := (RX5, TX5, 10)) (κ := 3) (i := 0) (As := [.int ((20) + (k1))]) (rest := []) ⟨hx, hb, hml, hown, hts⟩ (ctX5_takeNumber l D y ad x5 R qs nC nT hR u (20 + q) _ g5 (addk 20 ek : (20 : Int32) + k1 = nI (20 + q)) (by omega)) (cwV 1 hts gX5_readSuit_X5_takeNumber rfl rfl rfl (by decide +kernel) ⟨Nat.le_of_ble_eq_true rfl, Nat.le_of_ble_eq_true rfl⟩) ((hR 3 (0)).mpr Nat.zero_lt_one) (fun _ _ _ => ⟨_, rfl⟩) rfl hE hK hP hD hS hA rfl hl.1 rfl (Nat.le_of_ble_eq_true rfl) dX5_readSuit_74 ⟨Nat.zero_le _, Nat.zero_le _⟩ (fun r6 x6 H locs h6 hP hD hS => ?_)
          refine lv_if_eq (tgt := 100) hx hb dX5_readSuit_77 (by decide) (fun c_77 => ?_) (fun c_77 => ?_)
          · refine lv_iconst (v := 0) hx hb dX5_readSuit_100 (by decide) ?_
            exact c_reti hx hb hr hlocks hAe hK hP hD hS (by first | rfl | decide) dX5_readSuit_101 (by rw [hres, rdD, if_pos b64, rdO, ← h5, cbnd_0 h6 c_77])
          · have g6 := tkN_1 g5 h6 c_77
            refine lv_aload_n hx hb dX5_readSuit_80 rfl (lv_at hl 1 rfl) ?_
            refine va_ldcS hx hb hown (show vk_R RX5 94 "water" (qs 7).1 s from (hE.2 7 (by omega)).2) dX5_readSuit_81 ?_
            refine c_calli (ci := 5) (q := (RX5, TX5, 10)) (κ := 3) (i := 0) (As := [.ref ((qs 7).1)]) (rest := []) ⟨hx, hb, hml, hown, hts⟩ (ctX5_takeWord l D y ad x6 R qs nC nT hR u 7 g6 (by omega)) (cwV 1 hts gX5_readSuit_X5_takeWord rfl rfl rfl (by decide +kernel) ⟨Nat.le_of_ble_eq_true rfl, Nat.le_of_ble_eq_true rfl⟩) ((hR 3 (0)).mpr Nat.zero_lt_one) (fun _ _ _ => ⟨_, rfl⟩) rfl hE hK hP hD hS hA rfl hl.1 rfl (Nat.le_of_ble_eq_true rfl) dX5_readSuit_83 ⟨Nat.zero_le _, Nat.zero_le _⟩ (fun r7 x7 H locs h7 hP hD hS => ?_)
            refine lv_if_eq (tgt := 100) hx hb dX5_readSuit_86 (by decide) (fun c_86 => ?_) (fun c_86 => ?_)
            · refine lv_iconst (v := 0) hx hb dX5_readSuit_100 (by decide) ?_
              exact c_reti hx hb hr hlocks hAe hK hP hD hS (by first | rfl | decide) dX5_readSuit_101 (by rw [hres, rdD, if_pos b64, rdO, ← h5, cbnd_1 h6 c_77, cbnd_0 h7 c_86])
            · have g7 := tkW_1 g6 h7 c_86
              refine lv_aload_n hx hb dX5_readSuit_89 rfl (lv_at hl 1 rfl) ?_
              refine lv_bipush (v := 30) hx hb dX5_readSuit_90 (by decide) ?_
              refine lv_iload_n hx hb dX5_readSuit_92 rfl (lv_at hl 0 rfl) ?_
              refine lv_iadd hx hb dX5_readSuit_93 ?_
              refine c_calli (ci := 5) (q := (RX5, TX5, 10)) (κ := 3) (i := 0) (As := [.int ((30) + (k1))]) (rest := []) ⟨hx, hb, hml, hown, hts⟩ (ctX5_takeNumber l D y ad x7 R qs nC nT hR u (30 + q) _ g7 (addk 30 ek : (30 : Int32) + k1 = nI (30 + q)) (by omega)) (cwV 1 hts gX5_readSuit_X5_takeNumber rfl rfl rfl (by decide +kernel) ⟨Nat.le_of_ble_eq_true rfl, Nat.le_of_ble_eq_true rfl⟩) ((hR 3 (0)).mpr Nat.zero_lt_one) (fun _ _ _ => ⟨_, rfl⟩) rfl hE hK hP hD hS hA rfl hl.1 rfl (Nat.le_of_ble_eq_true rfl) dX5_readSuit_94 ⟨Nat.zero_le _, Nat.zero_le _⟩ (fun r8 x8 H locs h8 hP hD hS => ?_)
              refine lv_if_ne (tgt := 102) hx hb dX5_readSuit_97 (by decide) (fun c_97 => ?_) (fun c_97 => ?_)
              · have g8 := tkN_1 g7 h8 c_97
                exact j_102 _ g8 (by rw [rdD, if_pos b64, rdO, ← h5, cbnd_1 h6 c_77, cbnd_1 h7 c_86, cbnd_1 h8 c_97]) _ _ hP hD hS _ (lv_sub hl [1, 0] rfl)
              · refine lv_iconst (v := 0) hx hb dX5_readSuit_100 (by decide) ?_
                exact c_reti hx hb hr hlocks hAe hK hP hD hS (by first | rfl | decide) dX5_readSuit_101 (by rw [hres, rdD, if_pos b64, rdO, ← h5, cbnd_1 h6 c_77, cbnd_1 h7 c_86, cbnd_0 h8 c_97])
      · refine lv_iconst (v := 0) hx hb dX5_readSuit_32 (by decide) ?_
        exact c_reti hx hb hr hlocks hAe hK hP hD hS (by first | rfl | decide) dX5_readSuit_33 (by rw [rdS, ← h1, rdA, if_neg c_7, rdB, cbnd_1 h2 c_18, cbnd_0 (by rw [show sI (k1, x1).1 = q from hsk]; exact h3) c_29])
  · refine lv_iconst (v := 0) hx hb dX5_readSuit_10 (by decide) ?_
    exact c_reti hx hb hr hlocks hAe hK hP hD hS (by first | rfl | decide) dX5_readSuit_11 (by rw [rdS, ← h1, rdA, if_pos c_7])
