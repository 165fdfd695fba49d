/-! the landed program: constructors, what they rest on -/
set_option maxHeartbeats 4000000 in
set_option maxRecDepth 100000 in
/-- Arrays.fill -/
theorem ctJ7_fill_53178_m (l : Launch) (D : va_G) (y : Nat → ClassId) (ad : Nat → Nat → Nat) (x : cS) (R : List (Nat × Nat)) (qs : Nat → Nat × Nat) (κ i n : Nat) (v : Int32) (hm : (κ, i) ∈ R) (he : ∀ f g o, cE ad y κ i f g o = .inl (y 1, n, .inl f)) (hn : n < 2 ^ 31) : cMv l yJ7_fill_53178 wsJ7_fill_53178 ({ frames := 0, cells := 0, slots := 0, locals := 0 }) D y ad x R qs [.ref (ad κ i), .int v] (fun x' => x' = cF x κ i v n) := by
  refine cMv_of (cc := cJ7_fill_53178) (maxL := 4) (ret := none) (by decide) rfl (Nat.le_of_ble_eq_true rfl) ?_
  intro p e s m below meth c A ls hat hAe hl
  obtain ⟨hx, hb, hr, hml, hts, hown, hlocks, hK, hP, hD, hA, hE⟩ := hat
  have hown : s.vm.findClass RJ7 = some m.cls := hown
  have hl : lv_has ls 4 [(0, .ref (ad κ i)), (1, .int v)] := hl
  have hS : va_S A s.heap s.heap [] := va_S.rf
  refine lv_iconst (v := 0) hx hb dJ7_fill_53178_0 (by decide) ?_
  refine lv_istore_n (lv' := [(2, .int 0), (0, .ref (ad κ i)), (1, .int v)]) hx hb dJ7_fill_53178_1 rfl hl (by decide) rfl (fun ls hl => ?_)
  refine lv_aload_n hx hb dJ7_fill_53178_2 rfl (lv_at hl 1 rfl) ?_
  refine c_len (t0 := 1) κ (i) hx hb hK hP hm (he _ _ _) rfl dJ7_fill_53178_3 ?_
  refine lv_topi (fun xn exn => ?_)
  refine lv_istore_n (lv' := [(3, .int xn), (2, .int 0), (0, .ref (ad κ i)), (1, .int v)]) hx hb dJ7_fill_53178_4 rfl hl (by decide) rfl (fun ls hl => ?_)
  have lp_5 : ∀ (n_5 : Nat) (j : Nat) (u : cS) (x2 : Int32), (j ≤ n) → (n + 1 ≤ j + n_5) → (x2 = nI j) → (u = cF x κ i v j) → ∀ (H : Heap) (locs : List Loc), va_P D vwCl (cW ad y u R) H → va_D A (cW ad y u R) → va_S A s.heap H locs → ∀ (ls : Array Slot), lv_has ls 4 [(0, .ref (ad κ i)), (1, .int v), (2, .int x2), (3, .int xn)] → W p l e (headSpec wsJ7_fill_53178 ({ frames := 0, cells := 0, slots := 0, locals := 0 })).room s m ([.ref (ad κ i), .int v] : List Value).toArray below meth c H locs 0 0 (MQ below (va_Qv (fun x' => x' = cF x κ i v n) (cEnd D y ad R s.heap.size) A) ([.ref (ad κ i), .int v] : List Value).toArray s 0 0 A) (F0 m 5 ls []) := by
    intro n_5
    induction n_5 with
    | zero =>
      intro j u x2 hj hf ex2 hu
      exact absurd hf (by omega)
    | succ n_5 ih_5 =>
      intro j u x2 hj hf ex2 hu H locs hP hD hS ls hl
      refine lv_iload_n hx hb dJ7_fill_53178_5 rfl (lv_at hl 2 rfl) ?_
      refine lv_iload_n hx hb dJ7_fill_53178_6 rfl (lv_at hl 3 rfl) ?_
      refine lv_icmp_ge (tgt := 20) hx hb dJ7_fill_53178_7 (by decide) (fun c_7 => ?_) (fun c_7 => ?_)
      · have hjn : j = n := by rw [exn, ex2] at c_7; have := (nI_leI (by omega) (by omega)).mp c_7; omega
        exact c_retv hx hb hr hlocks hAe hK hP hD hS dJ7_fill_53178_20 (by rw [hu, hjn])
      · have hjn : j < n := by rw [exn, ex2] at c_7; exact Nat.not_le.mp (fun q9 => c_7 (nI_le q9 (by omega)))
        refine lv_aload_n hx hb dJ7_fill_53178_10 rfl (lv_at hl 0 rfl) ?_
        refine lv_iload_n hx hb dJ7_fill_53178_11 rfl (lv_at hl 2 rfl) ?_
        refine lv_iload_n hx hb dJ7_fill_53178_12 rfl (lv_at hl 1 rfl) ?_
        refine cs_int κ (i) n hx hb hK hP hD hS hm he (by rw [ex2]; exact vp_in_nI (by omega) (by omega)) dJ7_fill_53178_13 (fun H locs hP hD hS => ?_)
        rw [ex2, nI_clamp (by omega)] at hP hD
        obtain ⟨x2_1, ex2_1⟩ : ∃ z : Int32, z = x2 + 1 := ⟨_, rfl⟩
        refine lv_iinc (v := x2_1) (lv' := [(2, .int x2_1), (0, .ref (ad κ i)), (1, .int v), (3, .int xn)]) hx hb dJ7_fill_53178_14 hl (k := 2) rfl (by rw [ex2_1]; rfl) (by decide) rfl (fun ls hl => ?_)
        refine lv_goto (tgt := 5) hx hb dJ7_fill_53178_17 (by decide) ?_
        exact ih_5 (j + 1) _ _ (by omega) (by omega) (by rw [ex2_1, ex2]; exact nI_1 _) (by rw [hu, cF_s]) _ _ hP hD hS _ (lv_sub hl [1, 2, 0, 3] rfl)
  exact lp_5 (n + 1) 0 _ _ (Nat.zero_le _) (by omega) rfl (cF_0 _ _ _ _).symm _ _ hP hD hS _ (lv_sub hl [2, 3, 1, 0] rfl)
set_option maxHeartbeats 4000000 in
set_option maxRecDepth 100000 in
/-- LawText.forget -/
theorem ctX6_forget_m (l : Launch) (D : va_G) (y : Nat → ClassId) (ad : Nat → Nat → Nat) (x : cS) (R : List (Nat × Nat)) (qs : Nat → Nat × Nat) (t : Nat) (hm25 : (25, t) ∈ R) (hm26 : (26, t) ∈ R) : cMv l yX6_forget wsX6_forget ({ frames := 1, cells := 0, slots := 0, locals := 23 }) D y ad x R qs [.ref (ad 25 t)] (fun x' => x' = cForget x t) := by
  refine cMv_of (cc := cX6_forget) (maxL := 2) (ret := none) (by decide) rfl (Nat.le_of_ble_eq_true rfl) ?_
  intro p e s m below meth c A ls hat hAe hl
  obtain ⟨hx, hb, hr, hml, hts, hown, hlocks, hK, hP, hD, hA, hE⟩ := hat
  have hown : s.vm.findClass RX6 = some m.cls := hown
  have hin6 : ∀ w ∈ wsX60, w ∈ wsX6_forget := fun _ h9 => List.mem_cons_of_mem _ (List.mem_append_right _ h9)
  have hl : lv_has ls 2 [(0, .ref (ad 25 t))] := hl
  have hS : va_S A s.heap s.heap [] := va_S.rf
  refine lv_aload_n hx hb dX6_forget_0 rfl (lv_at hl 0 rfl) ?_
  refine cg_X6_values (i := t) hx hb hts hin6 hown hK hP hm25 (by decide +kernel) dX6_forget_1 ?_
  refine lv_bipush (v := (-9)) hx hb dX6_forget_4 (by decide) ?_
  refine c_scallv (As := [.ref (ad 26 t), .int (-9)]) (rest := []) ⟨hx, hb, hml, hown, hts⟩ (ctJ7_fill_53178_m l D y ad x R qs 26 t 51 (-9) hm26 (fun _ _ _ => rfl) (by omega)) (va_cwS 2 hts gX6_forget_J7_fill_53178 rfl rfl rfl (by decide +kernel) ⟨Nat.le_of_ble_eq_true rfl, Nat.le_of_ble_eq_true rfl⟩) hE hK hP hD hS hA rfl hl.1 rfl (Nat.le_of_ble_eq_true rfl) dX6_forget_6 ⟨Nat.zero_le _, Nat.zero_le _⟩ (fun xf H locs hf9 hP hD hS => ?_)
  rw [hf9] at hP hD
  refine lv_aload_n hx hb dX6_forget_9 rfl (lv_at hl 0 rfl) ?_
  refine cg_X6_values (i := t) hx hb hts hin6 hown hK hP hm25 (by decide +kernel) dX6_forget_10 ?_
  refine lv_iconst (v := 0) hx hb dX6_forget_13 (by decide) ?_
  refine lv_sipush (v := 10950) hx hb dX6_forget_14 (by decide) ?_
  refine cs_int 26 (t) 51 hx hb hK hP hD hS hm26 (fun _ _ _ => rfl) (show vp_in (nI 0) 51 from vp_in_nI (by omega) (by omega)) dX6_forget_17 (fun H locs hP hD hS => ?_)
  rw [show (0 : Int32).toNatClampNeg = 0 from rfl] at hP hD
  refine lv_aload_n hx hb dX6_forget_18 rfl (lv_at hl 0 rfl) ?_
  refine cg_X6_values (i := t) hx hb hts hin6 hown hK hP hm25 (by decide +kernel) dX6_forget_19 ?_
  refine lv_iconst (v := 1) hx hb dX6_forget_22 (by decide) ?_
  refine lv_iconst (v := 3) hx hb dX6_forget_23 (by decide) ?_
  refine cs_int 26 (t) 51 hx hb hK hP hD hS hm26 (fun _ _ _ => rfl) (show vp_in (nI 1) 51 from vp_in_nI (by omega) (by omega)) dX6_forget_24 (fun H locs hP hD hS => ?_)
  rw [show (1 : Int32).toNatClampNeg = 1 from rfl] at hP hD
  refine lv_aload_n hx hb dX6_forget_25 rfl (lv_at hl 0 rfl) ?_
  refine cg_X6_values (i := t) hx hb hts hin6 hown hK hP hm25 (by decide +kernel) dX6_forget_26 ?_
  refine lv_iconst (v := 2) hx hb dX6_forget_29 (by decide) ?_
  refine lv_sipush (v := 1000) hx hb dX6_forget_30 (by decide) ?_
  refine cs_int 26 (t) 51 hx hb hK hP hD hS hm26 (fun _ _ _ => rfl) (show vp_in (nI 2) 51 from vp_in_nI (by omega) (by omega)) dX6_forget_33 (fun H locs hP hD hS => ?_)
  rw [show (2 : Int32).toNatClampNeg = 2 from rfl] at hP hD
  refine lv_aload_n hx hb dX6_forget_34 rfl (lv_at hl 0 rfl) ?_
  refine cg_X6_values (i := t) hx hb hts hin6 hown hK hP hm25 (by decide +kernel) dX6_forget_35 ?_
  refine lv_iconst (v := 3) hx hb dX6_forget_38 (by decide) ?_
  refine lv_iconst (v := 0) hx hb dX6_forget_39 (by decide) ?_
  refine cs_int 26 (t) 51 hx hb hK hP hD hS hm26 (fun _ _ _ => rfl) (show vp_in (nI 3) 51 from vp_in_nI (by omega) (by omega)) dX6_forget_40 (fun H locs hP hD hS => ?_)
  rw [show (3 : Int32).toNatClampNeg = 3 from rfl] at hP hD
  refine lv_iconst (v := 0) hx hb dX6_forget_41 (by decide) ?_
  refine lv_istore_n (lv' := [(1, .int 0), (0, .ref (ad 25 t))]) hx hb dX6_forget_42 rfl hl (by decide) rfl (fun ls hl => ?_)
  have lp_43 : ∀ (n_43 : Nat) (j : Nat) (u : cS) (x1 : Int32), (j ≤ 6) → (6 + 1 ≤ j + n_43) → (x1 = nI j) → (u = cFgK x t j) → ∀ (H : Heap) (locs : List Loc), va_P D vwCl (cW ad y u R) H → va_D A (cW ad y u R) → va_S A s.heap H locs → ∀ (ls : Array Slot), lv_has ls 2 [(0, .ref (ad 25 t)), (1, .int x1)] → W p l e (headSpec wsX6_forget ({ frames := 1, cells := 0, slots := 0, locals := 23 })).room s m ([.ref (ad 25 t)] : List Value).toArray below meth c H locs 0 0 (MQ below (va_Qv (fun x' => x' = cForget x t) (cEnd D y ad R s.heap.size) A) ([.ref (ad 25 t)] : List Value).toArray s 0 0 A) (F0 m 43 ls []) := by
    intro n_43
    induction n_43 with
    | zero =>
      intro j u x1 hj hf ex1 hu
      exact absurd hf (by omega)
    | succ n_43 ih_43 =>
      intro j u x1 hj hf ex1 hu H locs hP hD hS ls hl
      refine lv_iload_n hx hb dX6_forget_43 rfl (lv_at hl 1 rfl) ?_
      refine lv_bipush (v := 6) hx hb dX6_forget_44 (by decide) ?_
      refine lv_icmp_ge (tgt := 97) hx hb dX6_forget_46 (by decide) (fun c_46 => ?_) (fun c_46 => ?_)
      · have hjn : j = 6 := by rw [ex1] at c_46; have := (nI_leI (a := 6) (by omega) (by omega)).mp c_46; omega
        refine lv_aload_n hx hb dX6_forget_97 rfl (lv_at hl 0 rfl) ?_
        refine cg_X6_values (i := t) hx hb hts hin6 hown hK hP hm25 (by decide +kernel) dX6_forget_98 ?_
        refine lv_bipush (v := 50) hx hb dX6_forget_101 (by decide) ?_
        refine lv_iconst (v := (-1)) hx hb dX6_forget_103 (by decide) ?_
        refine cs_int 26 (t) 51 hx hb hK hP hD hS hm26 (fun _ _ _ => rfl) (show vp_in (nI 50) 51 from vp_in_nI (by omega) (by omega)) dX6_forget_104 (fun H locs hP hD hS => ?_)
        rw [show (50 : Int32).toNatClampNeg = 50 from rfl] at hP hD
        exact c_retv hx hb hr hlocks hAe hK hP hD hS dX6_forget_105 (by rw [hu, hjn]; rfl)
      · have hjn : j < 6 := by rw [ex1] at c_46; exact Nat.not_le.mp (fun q9 => c_46 (nI_le (a := 6) q9 (by omega)))
        refine lv_aload_n hx hb dX6_forget_49 rfl (lv_at hl 0 rfl) ?_
        refine cg_X6_values (i := t) hx hb hts hin6 hown hK hP hm25 (by decide +kernel) dX6_forget_50 ?_
        refine lv_bipush (v := 10) hx hb dX6_forget_53 (by decide) ?_
        refine lv_iload_n hx hb dX6_forget_55 rfl (lv_at hl 1 rfl) ?_
        refine lv_iadd hx hb dX6_forget_56 ?_
        refine lv_bipush (v := 10) hx hb dX6_forget_57 (by decide) ?_
        refine cs_int 26 (t) 51 hx hb hK hP hD hS hm26 (fun _ _ _ => rfl) (by rw [show (10 : Int32) + x1 = nI (10 + j) from addk 10 ex1]; exact vp_in_nI (by omega) (by omega)) dX6_forget_59 (fun H locs hP hD hS => ?_)
        rw [show (10 : Int32) + x1 = nI (10 + j) from addk 10 ex1, nI_clamp (by omega)] at hP hD
        refine lv_aload_n hx hb dX6_forget_60 rfl (lv_at hl 0 rfl) ?_
        refine cg_X6_values (i := t) hx hb hts hin6 hown hK hP hm25 (by decide +kernel) dX6_forget_61 ?_
        refine lv_bipush (v := 20) hx hb dX6_forget_64 (by decide) ?_
        refine lv_iload_n hx hb dX6_forget_66 rfl (lv_at hl 1 rfl) ?_
        refine lv_iadd hx hb dX6_forget_67 ?_
        refine lv_iconst (v := (-1)) hx hb dX6_forget_68 (by decide) ?_
        refine cs_int 26 (t) 51 hx hb hK hP hD hS hm26 (fun _ _ _ => rfl) (by rw [show (20 : Int32) + x1 = nI (20 + j) from addk 20 ex1]; exact vp_in_nI (by omega) (by omega)) dX6_forget_69 (fun H locs hP hD hS => ?_)
        rw [show (20 : Int32) + x1 = nI (20 + j) from addk 20 ex1, nI_clamp (by omega)] at hP hD
        refine lv_aload_n hx hb dX6_forget_70 rfl (lv_at hl 0 rfl) ?_
        refine cg_X6_values (i := t) hx hb hts hin6 hown hK hP hm25 (by decide +kernel) dX6_forget_71 ?_
        refine lv_bipush (v := 30) hx hb dX6_forget_74 (by decide) ?_
        refine lv_iload_n hx hb dX6_forget_76 rfl (lv_at hl 1 rfl) ?_
        refine lv_iadd hx hb dX6_forget_77 ?_
        refine lv_bipush (v := 10) hx hb dX6_forget_78 (by decide) ?_
        refine cs_int 26 (t) 51 hx hb hK hP hD hS hm26 (fun _ _ _ => rfl) (by rw [show (30 : Int32) + x1 = nI (30 + j) from addk 30 ex1]; exact vp_in_nI (by omega) (by omega)) dX6_forget_80 (fun H locs hP hD hS => ?_)
        rw [show (30 : Int32) + x1 = nI (30 + j) from addk 30 ex1, nI_clamp (by omega)] at hP hD
        refine lv_aload_n hx hb dX6_forget_81 rfl (lv_at hl 0 rfl) ?_
        refine cg_X6_values (i := t) hx hb hts hin6 hown hK hP hm25 (by decide +kernel) dX6_forget_82 ?_
        refine lv_bipush (v := 40) hx hb dX6_forget_85 (by decide) ?_
        refine lv_iload_n hx hb dX6_forget_87 rfl (lv_at hl 1 rfl) ?_
        refine lv_iadd hx hb dX6_forget_88 ?_
        refine lv_iconst (v := 0) hx hb dX6_forget_89 (by decide) ?_
        refine cs_int 26 (t) 51 hx hb hK hP hD hS hm26 (fun _ _ _ => rfl) (by rw [show (40 : Int32) + x1 = nI (40 + j) from addk 40 ex1]; exact vp_in_nI (by omega) (by omega)) dX6_forget_90 (fun H locs hP hD hS => ?_)
        rw [show (40 : Int32) + x1 = nI (40 + j) from addk 40 ex1, nI_clamp (by omega)] at hP hD
        obtain ⟨x1_1, ex1_1⟩ : ∃ z : Int32, z = x1 + 1 := ⟨_, rfl⟩
        refine lv_iinc (v := x1_1) (lv' := [(1, .int x1_1), (0, .ref (ad 25 t))]) hx hb dX6_forget_91 hl (k := 1) rfl (by rw [ex1_1]; rfl) (by decide) rfl (fun ls hl => ?_)
        refine lv_goto (tgt := 43) hx hb dX6_forget_94 (by decide) ?_
        exact ih_43 (j + 1) _ _ (by omega) (by omega) (by rw [ex1_1, ex1]; exact nI_1 _) (by rw [hu, cFgK]) _ _ hP hD hS _ (lv_sub hl [1, 0] rfl)
  exact lp_43 7 0 _ _ (Nat.zero_le _) (by omega) rfl rfl _ _ hP hD hS _ (lv_sub hl [1, 0] rfl)
def cAOL (U : State) : Prop := ∃ (cI cA : ClassId) (kA : Class), U.vm.findClass (FieldType.array .long).toString = some cI ∧ U.vm.classes[cA]? = some kA ∧ kA.kind = .array cI (.array .long) ∧ U.vm.findClass ("[" ++ (FieldType.array .long).toString) = some cA
theorem cAOL.of {A : Array Value} {U : State} (h : (Cond.arrayOver (.array .long)).before A U = true) : cAOL U := by
  obtain ⟨cI, cA, kA, h1, -, h2, h3, h4⟩ := arrayOverA_spec h
  exact ⟨cI, cA, kA, h1, h2, h3, h4⟩
theorem cAOL.moved {u U : State} (hvm : u.vm.Alike U.vm) (h : cAOL u) : cAOL U := by
  obtain ⟨cI, cA, kA, h1, h2, h3, h4⟩ := h
  obtain ⟨kB, hkB, eB⟩ := hvm.2.2 cA kA h2
  exact ⟨cI, cA, kB, by rw [hvm.findClass]; exact h1, hkB, by rw [eB]; exact h3, by rw [hvm.findClass]; exact h4⟩
def cNN (U : State) : Prop := (va_Nw (.methodLinkNest RX9 9 yX8_init "LotMachine") U ∧ va_Nw (.methodLinkNest RX9 27 yX4_init "LotMachine") U ∧ va_Nw (.methodLinkNest RX9 40 yX3_init "LotMachine") U ∧ va_Nw (.methodLinkNest RX9 47 yX0_init "LotMachine") U ∧ va_Nw (.methodLinkNest RX9 58 yX2_init "LotMachine") U ∧ va_Nw (.methodLinkNest RX2 17 yX7_init "LotMachine") U) ∧ va_AO RX1 U ∧ va_AO RX6 U ∧ va_AO RX2 U ∧ cAOL U
theorem cNN.warm {s U : State} (hW : s.WarmedH U.vm) (h : cNN s) : cNN U := ⟨⟨va_Nw.warmM hW h.1.1, va_Nw.warmM hW h.1.2.1, va_Nw.warmM hW h.1.2.2.1, va_Nw.warmM hW h.1.2.2.2.1, va_Nw.warmM hW h.1.2.2.2.2.1, va_Nw.warmM hW h.1.2.2.2.2.2⟩, h.2.1.moved hW.alike, h.2.2.1.moved hW.alike, h.2.2.2.1.moved hW.alike, h.2.2.2.2.moved hW.alike⟩
theorem cNN.call {U : State} {g : JFrame} {mk : MethodId} {a9 : Array Value} (h : cNN U) : cNN (U.calling g mk a9) := ⟨⟨va_Nw.same (u := U) rfl rfl h.1.1, va_Nw.same (u := U) rfl rfl h.1.2.1, va_Nw.same (u := U) rfl rfl h.1.2.2.1, va_Nw.same (u := U) rfl rfl h.1.2.2.2.1, va_Nw.same (u := U) rfl rfl h.1.2.2.2.2.1, va_Nw.same (u := U) rfl rfl h.1.2.2.2.2.2⟩, h.2.1.moved (Vm.Alike.refl U.vm), h.2.2.1.moved (Vm.Alike.refl U.vm), h.2.2.2.1.moved (Vm.Alike.refl U.vm), h.2.2.2.2.moved (Vm.Alike.refl U.vm)⟩
def cEE (qs : Nat → Nat × Nat) (A : Nat → Prop) (U : State) (H : Heap) : Prop := cEnv qs A U H ∧ cNN U
def lA (h sz : Nat) : Nat → Prop := fun q => q = h ∨ sz ≤ q
def lEnd (D : va_G) (y : Nat → ClassId) (h sz : Nat) (w : va_W) (t : State) : Prop := va_P D vwCl w t.heap ∧ va_K D vwCl (cT y) t ∧ va_D (lA h sz) w
/-- a constructor: from its own bare cell to the cells that it leaves -/
def lM (l : Launch) (ym : MethodName) (ws : List Cond) (rm : Room) (mc ms : Nat) (D : va_G) (y : Nat → ClassId) (qs : Nat → Nat × Nat) (h : Nat) (e0 : va_E) (as : List Value) (post : va_W → Prop) : Prop :=
  ∀ sz, Met l ym ws rm (va_Pc (.ref h :: as) (fun U => U.heap.size = sz ∧ va_P D vwCl [(h, e0)] U.heap ∧ va_K D vwCl (cT y) U ∧ cEE qs (lA h sz) U U.heap)) (va_Qv post (lEnd D y h sz) (lA h sz)) mc ms (lA h sz)
theorem one_D {A : Nat → Prop} {h : Nat} {e : va_E} (hA : A h) : va_D A [(h, e)] := by
  refine ⟨fun i j p q hi hj _ => ?_, fun k q hk => ?_⟩
  · have h1 : i < 1 := (List.getElem?_eq_some_iff.mp hi).1
    have h2 : j < 1 := (List.getElem?_eq_some_iff.mp hj).1
    omega
  · have h1 : k < 1 := (List.getElem?_eq_some_iff.mp hk).1
    rw [show k = 0 by omega] at hk
    cases hk
    exact hA
theorem lM_of {l : Launch} {ym : MethodName} {ws ws' : List Cond} {rm : Room} {mc ms : Nat} {D : va_G} {y : Nat → ClassId} {qs : Nat → Nat × Nat} {h : Nat} {e0 : va_E} {as : List Value} {post : va_W → Prop} {cc : ByteArray} {maxL : Nat} (hy : plainName ym.cls = true) (hyn : ym.name = "<init>") (hw : ws = Cond.code ym cc maxL none :: ws') (hf : (lg_sl (.ref h :: as)).length ≤ maxL)
    (body : ∀ (p : Program) (e : Env) (s : State) (m : MethodId) (below : List Frame) (meth : Method) (c : Code) (A : Nat → Prop) (ls : Array Slot), p.tables.exec = Jvm.exec → c.code = cc → meth.sig.returnType = none → c.maxLocals = maxL → (∀ w ∈ ws, w.before (.ref h :: as : List Value).toArray s = true) → s.vm.findClass ym.cls = some m.cls → meth.locks = false → meth.name = "<init>" → va_K D vwCl (cT y) s → va_P D vwCl [(h, e0)] s.heap → va_D A [(h, e0)] → (∀ q, s.heap.size ≤ q → A q) → cEE qs A s s.heap → A = lA h s.heap.size → lv_has ls maxL (lv_args 0 (.ref h :: as)) →
      W p l e (headSpec ws rm).room s m (.ref h :: as : List Value).toArray below meth c s.heap [] 0 0 (MQ below (va_Qv post (lEnd D y h s.heap.size) A) (.ref h :: as : List Value).toArray s mc ms A) (F0 m 0 ls [])) : lM l ym ws rm mc ms D y qs h e0 as post := by
  intro sz
  refine Met.ofW (cc := cc) (maxL := maxL) (ret := none) hy hw ?_
  intro p e s m args below meth c s₁ B hml hv
  obtain ⟨rfl, hsz, hP, hK, hE⟩ := hv
  subst hsz
  have hown : s.vm.findClass ym.cls = some m.cls := findClass_of_methodNamed B.named
  have hnm : meth.name = "<init>" := (name_of_methodNamed B.named B.method).1.trans hyn
  rw [lg_entry_eq]
  exact body p e s m below meth c (lA h s.heap.size) _ B.exec B.bytes B.returns hml (atoms_spec (ws := ws) B.pre) hown B.notSynchronized hnm hK hP (one_D (Or.inl rfl)) (fun q hq => Or.inr hq) hE rfl (lv_entry _ hf)
section LC
variable {p : Program} {l : Launch} {e : Env} {Rm : Room} {s : State} {m : MethodId} {args : Array Value} {below : List Frame} {meth : Method} {c : Code} {H : Heap} {locs : List Loc} {cells slots : Nat} {Q : State → Prop}
variable {cc : ByteArray} {pc : Nat} {ls : Array Slot} {rest st : List Value} {D : va_G} {A : Nat → Prop} {y : Nat → ClassId} {qs : Nat → Nat × Nat} {Ts ws : List Cond} {own host : String} {index n mc ms : Nat}
variable {ym : MethodName} {bytes : ByteArray} {maxL nL : Nat} {rm : Room} {As : List Value} {h : Nat} {e0 : va_E} {W0 : va_W} {post : va_W → Prop}
theorem cEE_at {U : State} {B : Nat → Prop} (hE : cEE qs A s s.heap) (hS : va_S A s.heap H locs) (hB : ∀ q, B q → A q) (hU : U.heap = H) (hW : s.WarmedH U.vm) : cEE qs B U U.heap :=
  ⟨⟨⟨va_Nw.warmM hW hE.1.1.1, va_Nw.warmM hW hE.1.1.2.1, va_Nw.warmM hW hE.1.1.2.2⟩, fun j hj => ⟨by rw [hU]; exact (((hE.1.2 j hj).1.kept hS.2.1).narrow hB).moved hW.alike, vk_R.warm hW (hE.1.2 j hj).2⟩⟩, hE.2.warm hW⟩
theorem lA_sub (hP : va_P D vwCl (W0 ++ [(h, e0)]) H) (hD : va_D A (W0 ++ [(h, e0)])) (hS : va_S A s.heap H locs) (hA : ∀ q, s.heap.size ≤ q → A q) : ∀ q, lA h H.size q → A q := by
  rintro q (hq | hq)
  · rw [hq]; exact hD.2 W0.length (h, e0) (by rw [List.getElem?_append_right (Nat.le_refl _), Nat.sub_self]; rfl)
  · exact hA q (Nat.le_trans hS.1 hq)
theorem l_pre (hE : cEE qs A s s.heap) (hK : va_K D vwCl (cT y) s) (hP : va_P D vwCl (W0 ++ [(h, e0)]) H) (hD : va_D A (W0 ++ [(h, e0)])) (hS : va_S A s.heap H locs) (hA : ∀ q, s.heap.size ≤ q → A q) : PreS s H (va_Pc (.ref h :: As) (fun U => U.heap.size = H.size ∧ va_P D vwCl [(h, e0)] U.heap ∧ va_K D vwCl (cT y) U ∧ cEE qs (lA h H.size) U U.heap)) (.ref h :: As) := by
  refine ⟨fun a U g mk qq => ?_, fun U hU hW => ⟨rfl, by rw [hU], ?_, va_K.moved hW.alike hK, cEE_at hE hS (lA_sub hP hD hS hA) hU hW⟩⟩
  · obtain ⟨q0, q1, qP, qK, qE⟩ := qq
    exact ⟨q0, q1, qP, va_K.moved (u := U) (U := U.calling g mk a) (Vm.Alike.refl U.vm) qK, cEnv_b qE.1, qE.2.call⟩
  · rw [hU]
    intro k q hk
    have h1 : k < 1 := (List.getElem?_eq_some_iff.mp hk).1
    rw [show k = 0 by omega] at hk
    exact hP W0.length q (by rw [List.getElem?_append_right (Nat.le_refl _), Nat.sub_self]; exact hk)
theorem l_join {w1 : va_W} {H1 : Heap} (hP : va_P D vwCl (W0 ++ [(h, e0)]) H) (hD : va_D A (W0 ++ [(h, e0)])) (hS : va_S A s.heap H locs) (hA : ∀ q, s.heap.size ≤ q → A q) (hP1 : va_P D vwCl w1 H1) (hD1 : va_D (lA h H.size) w1) (hk : ∀ q : Nat, q < H.size → ¬ lA h H.size q → H1[q]? = H[q]?) : va_P D vwCl (W0 ++ w1) H1 ∧ va_D A (W0 ++ w1) := by
  have hin : ∀ (k : Nat) (x : Nat × va_E), W0[k]? = some x → x.1 < H.size ∧ ¬ lA h H.size x.1 := fun k x hx => by
    have hl := (List.getElem?_eq_some_iff.mp hx).1
    have hx2 : (W0 ++ [(h, e0)])[k]? = some x := by rw [List.getElem?_append_left hl]; exact hx
    have hlt := (hP k x hx2).lt
    refine ⟨hlt, ?_⟩
    rintro (hq | hq)
    · have := hD.1 k W0.length x (h, e0) hx2 (by rw [List.getElem?_append_right (Nat.le_refl _), Nat.sub_self]; rfl) hq
      omega
    · omega
  refine ⟨va_P.app (fun k x hx => ?_) hP1, va_D.app ⟨fun i j a b hi hj hab => ?_, fun k x hx => ?_⟩ (hD1.weaken (fun k q _ hq => lA_sub hP hD hS hA q.1 hq)) (fun i j a b hi hj hab => ?_)⟩
  · have hl := (List.getElem?_eq_some_iff.mp hx).1
    exact (hP k x (by rw [List.getElem?_append_left hl]; exact hx)).kept (hk x.1 (hin k x hx).1 (hin k x hx).2)
  · exact hD.1 i j a b (by rw [List.getElem?_append_left (List.getElem?_eq_some_iff.mp hi).1]; exact hi) (by rw [List.getElem?_append_left (List.getElem?_eq_some_iff.mp hj).1]; exact hj) hab
  · exact hD.2 k x (by rw [List.getElem?_append_left (List.getElem?_eq_some_iff.mp hx).1]; exact hx)
  · exact (hin i a hi).2 (by rw [hab]; exact hD1.2 j b hj)
theorem l_call (S : CallFix p m c cc nL s args Ts own) (hM : lM l ym ws rm mc ms D y qs h e0 As post) (cw : CallB Rm s args own index ym bytes maxL none ws rm mc ms n ∧ ym.name = "<init>" ∧ (Cond.instanceMethod ym).before args s = true) (hE : cEE qs A s s.heap) (hK : va_K D vwCl (cT y) s) (hP : va_P D vwCl (W0 ++ [(h, e0)]) H) (hD : va_D A (W0 ++ [(h, e0)])) (hS : va_S A s.heap H locs) (hA : ∀ q, s.heap.size ≤ q → A q) (hn : As.length = n) (hsz : ls.size = nL) (hst : st = As.reverse ++ .ref h :: rest) (hW : (rest.map fun v => v.category).sum ≤ 8) (hdg : decode cc pc = .ok (.invokespecial index, 3)) (hf : cells + mc ≤ Rm.cells ∧ slots + ms ≤ Rm.slots)
    (kk : ∀ (w1 : va_W) (H1 : Heap) (locs1 : List Loc), post w1 → va_P D vwCl (W0 ++ w1) H1 → va_D A (W0 ++ w1) → va_S A s.heap H1 locs1 → W p l e Rm s m args below meth c H1 locs1 (cells + mc) (slots + ms) Q (F0 m (pc + 3) ls rest)) : W p l e Rm s m args below meth c H locs cells slots Q (F0 m pc ls st) := by
  refine va_callv (va_runI (As := As) (rest := rest) S (hM H.size) cw (l_pre hE hK hP hD hS hA) rfl hn hsz hst (lv_room hW) hdg hf) hS (fun q _ hq => lA_sub hP hD hS hA q hq) (lA_sub hP hD hS hA) (fun u t H1 locs1 ht hvm hw hB hz hk hS1 => ?_)
  obtain ⟨hP1, hK1, hD1⟩ := hB
  rw [ht] at hP1
  obtain ⟨j1, j2⟩ := l_join hP hD hS hA hP1 hD1 hk
  exact kk u H1 locs1 hw j1 j2 hS1
theorem l_callN (S : CallFix p m c cc nL s args Ts own) (hM : lM l ym ws rm mc ms D y qs h e0 As post) (cw : va_CN Rm s args own index ym host bytes maxL none ws rm mc ms n ∧ ym.name = "<init>" ∧ (Cond.instanceMethod ym).before args s = true) (hE : cEE qs A s s.heap) (hK : va_K D vwCl (cT y) s) (hP : va_P D vwCl (W0 ++ [(h, e0)]) H) (hD : va_D A (W0 ++ [(h, e0)])) (hS : va_S A s.heap H locs) (hA : ∀ q, s.heap.size ≤ q → A q) (hn : As.length = n) (hsz : ls.size = nL) (hst : st = As.reverse ++ .ref h :: rest) (hW : (rest.map fun v => v.category).sum ≤ 8) (hdg : decode cc pc = .ok (.invokespecial index, 3)) (hf : cells + mc ≤ Rm.cells ∧ slots + ms ≤ Rm.slots)
    (kk : ∀ (w1 : va_W) (H1 : Heap) (locs1 : List Loc), post w1 → va_P D vwCl (W0 ++ w1) H1 → va_D A (W0 ++ w1) → va_S A s.heap H1 locs1 → W p l e Rm s m args below meth c H1 locs1 (cells + mc) (slots + ms) Q (F0 m (pc + 3) ls rest)) : W p l e Rm s m args below meth c H locs cells slots Q (F0 m pc ls st) := by
  refine va_callv (va_runIN (As := As) (rest := rest) S (hM H.size) cw (l_pre hE hK hP hD hS hA) rfl hn hsz hst (lv_room hW) hdg hf) hS (fun q _ hq => lA_sub hP hD hS hA q hq) (lA_sub hP hD hS hA) (fun u t H1 locs1 ht hvm hw hB hz hk hS1 => ?_)
  obtain ⟨hP1, hK1, hD1⟩ := hB
  rw [ht] at hP1
  obtain ⟨j1, j2⟩ := l_join hP hD hS hA hP1 hD1 hk
  exact kk u H1 locs1 hw j1 j2 hS1
theorem l_ret {w : va_W} (hx : p.tables.exec = Jvm.exec) (hb : c.code = cc) (hr : meth.sig.returnType = none) (hlocks : meth.locks = false) (hAe : A = lA h s.heap.size) (hK : va_K D vwCl (cT y) s) (hP : va_P D vwCl w H) (hD : va_D A w) (hS : va_S A s.heap H locs) (hdg : decode cc pc = .ok (.return_, 1)) (hp : post w) : W p l e Rm s m args below meth c H locs cells slots (MQ below (va_Qv post (lEnd D y h s.heap.size) A) args s cells slots A) (F0 m pc ls []) :=
  W.vret hx hb hr (fun t ht hW => ⟨⟨w, rfl, hp, by rw [ht]; exact hP, va_K.moved hW.alike hK, by rw [← hAe]; exact hD⟩, hS.F ht⟩) hS.2.2 hdg
end LC
