/-! the landed program: constructors -/
theorem ra_obj {C : String} {s : State} {c c' : ClassId} (h1 : va_RA s c (.object C)) (h2 : va_RA s c' (.object C)) : c = c' := by
  obtain ⟨_, _, _, _, _, a⟩ := h1
  obtain ⟨_, _, _, _, _, b⟩ := h2
  exact Option.some.inj (a.symm.trans b)
section KQ
variable {p : Program} {l : Launch} {e : Env} {R : Room} {s : State} {m : MethodId} {args : Array Value} {below : List Frame} {meth : Method} {c : Code} {H : Heap} {locs : List Loc} {cells slots : Nat} {Q : State → Prop}
variable {cc : ByteArray} {pc : Nat} {ls : Array Slot} {rest : List Value} {D : va_G} {cl : List vw_C} {A : Nat → Prop} {tys : List (ClassId × FieldType)} {ws : va_W} {H0 : Heap}
theorem k_newq (hexec : p.tables.exec = Jvm.exec) (hb : c.code = cc) {own C : String} {index : Nat} (hown : s.vm.findClass own = some m.cls) (hclink : (Cond.classLink own index C).before args s = true) (hover : va_AO C s) (hK : va_K D cl tys s) (hP : va_P D cl ws H) (hD : va_D A ws) (hS : va_S A H0 H locs) (hA : ∀ q, H0.size ≤ q → A q)
    {n : Int32} {N' : Nat} (hn : ¬ n < 0) (hN : n.toNatClampNeg = N') (hbytes : N' * 4 ≤ 536870912) (hcells : cells + 1 ≤ R.cells) (hslots : slots + N' ≤ R.slots) (hdg : decode cc pc = .ok (.anewarray index, 3)) (t0 : Nat) {cy : ClassId} (ht : tys[t0]? = some (cy, .object C))
    (kk : ∀ (q : Nat) (H1 : Heap), va_P D cl (ws ++ [(q, .inl (cy, N', .inr (.inr (.inr (.inr (fun _ => none))))))]) H1 → va_D A (ws ++ [(q, .inl (cy, N', .inr (.inr (.inr (.inr (fun _ => none))))))]) → va_S A H0 H1 locs →
      W p l e R s m args below meth c H1 locs (cells + 1) (slots + N') Q (F0 m (pc + 3) ls (.ref q :: rest))) : W p l e R s m args below meth c H locs cells slots Q (F0 m pc ls (.int n :: rest)) := by
  refine va_newq hexec hb hown hclink hover hK hP hD hS hA hn hN hbytes hcells hslots hdg (fun q cA H1 hK1 hP1 hD1 hS1 => ?_)
  have e : cA = cy := ra_obj (hK1.2 tys.length (cA, .object C) (by simp)).2 (hK.2 t0 _ ht).2
  subst e
  exact kk q H1 hP1 hD1 hS1
end KQ
def xL : cS := (fun a _ _ => if a = 25 then -1 else 0, fun _ _ _ => 0, fun _ _ _ => none)
def adL (h a : Nat) : Nat → Nat → Nat := fun κ _ => if κ = 25 then h else a
/-- the values of custom -/
def fPl : Nat → Int32 := (cForget xL 0).1 26 0
set_option maxHeartbeats 4000000 in
set_option maxRecDepth 100000 in
/-- Citizen -/
theorem ctX1_init (l : Launch) (D : va_G) (y : Nat → ClassId) (qs : Nat → Nat × Nat) (h : Nat) (x1 : Int32) (x2 : Int32) (x3 : Int32) (x4 : Int32) : lM l yX1_init wsX1_init ({ frames := 1, cells := 0, slots := 0, locals := 27 }) 0 0 D y qs h (.inr (1, [.int 0, .int 0, .int 0, .int 0, .int 0, .int 0, .int 0, .int 0, .int 0, .int 0])) [.int x1, .int x2, .int x3, .int x4] (fun w => w = [(h, .inr (1, [.int x1, .int x2, .int x3, .int x4, .int 0, .int 0, .int 0, .int (-1), .int 0, .int (-1)]))]) := by
  refine lM_of (cc := cX1_init) (maxL := 5) (by decide) rfl rfl (Nat.le_of_ble_eq_true rfl) ?_
  intro p e s m below meth c A ls hx hb hr hml hts hown hlocks hnm hK hP hD hA hE hAe hl
  have hown : s.vm.findClass RX1 = some m.cls := hown
  have hin1 : ∀ w ∈ wsX10, w ∈ wsX1_init := fun _ h9 => List.mem_cons_of_mem _ (List.mem_append_right _ h9)
  have hl : lv_has ls 5 [(0, .ref h), (1, .int x1), (2, .int x2), (3, .int x3), (4, .int x4)] := hl
  have hS : va_S A s.heap s.heap [] := va_S.rf
  refine lv_aload_n hx hb dX1_init_0 rfl (lv_at hl 0 rfl) ?_
  refine W.objInit hx hb hown (hts (.methodLink RX1 3 objectInit) (by decide +kernel)) (hts (.instanceMethod objectInit) (by decide +kernel)) (hts (.code objectInit ⟨#[0xb1]⟩ 1 none) (by decide +kernel)) rfl (by rw [hml]; exact hl.1) rfl dX1_init_1 (Nat.le_of_ble_eq_true rfl) (Nat.le_of_ble_eq_true rfl) ?_
  refine W.eq (g2 := F0 m 4 ls []) rfl ?_
  refine lv_aload_n hx hb dX1_init_4 rfl (lv_at hl 0 rfl) ?_
  refine lv_iload_n hx hb dX1_init_5 rfl (lv_at hl 1 rfl) ?_
  refine va_putF (D := D) (ci := 1) (v := .int x1) (ty := .int) (C := RX1) (T := TX1) (N := 10) hx hb hts hin1 tyX1 tyX1_ok nmX1 hown hK hP hD hS 0 rfl rfl 0 (by decide) (hts (.fieldLink RX1 9 "LotMachine$Citizen" "number" "I") (by decide +kernel)) (fun _ h9 => h9) rfl hnm rfl (by decide +kernel) rfl rfl (Nat.le_of_ble_eq_true rfl) dX1_init_6 (fun H locs hP hD hS => ?_)
  have hP : va_P D vwCl [(h, .inr (1, [.int x1, .int 0, .int 0, .int 0, .int 0, .int 0, .int 0, .int 0, .int 0, .int 0]))] H := hP
  have hD : va_D A [(h, .inr (1, [.int x1, .int 0, .int 0, .int 0, .int 0, .int 0, .int 0, .int 0, .int 0, .int 0]))] := hD
  refine lv_aload_n hx hb dX1_init_9 rfl (lv_at hl 0 rfl) ?_
  refine lv_iload_n hx hb dX1_init_10 rfl (lv_at hl 2 rfl) ?_
  refine va_putF (D := D) (ci := 1) (v := .int x2) (ty := .int) (C := RX1) (T := TX1) (N := 10) hx hb hts hin1 tyX1 tyX1_ok nmX1 hown hK hP hD hS 0 rfl rfl 1 (by decide) (hts (.fieldLink RX1 15 "LotMachine$Citizen" "tribe" "I") (by decide +kernel)) (fun _ h9 => h9) rfl hnm rfl (by decide +kernel) rfl rfl (Nat.le_of_ble_eq_true rfl) dX1_init_11 (fun H locs hP hD hS => ?_)
  have hP : va_P D vwCl [(h, .inr (1, [.int x1, .int x2, .int 0, .int 0, .int 0, .int 0, .int 0, .int 0, .int 0, .int 0]))] H := hP
  have hD : va_D A [(h, .inr (1, [.int x1, .int x2, .int 0, .int 0, .int 0, .int 0, .int 0, .int 0, .int 0, .int 0]))] := hD
  refine lv_aload_n hx hb dX1_init_14 rfl (lv_at hl 0 rfl) ?_
  refine lv_iload_n hx hb dX1_init_15 rfl (lv_at hl 3 rfl) ?_
  refine va_putF (D := D) (ci := 1) (v := .int x3) (ty := .int) (C := RX1) (T := TX1) (N := 10) hx hb hts hin1 tyX1 tyX1_ok nmX1 hown hK hP hD hS 0 rfl rfl 2 (by decide) (hts (.fieldLink RX1 18 "LotMachine$Citizen" "letter" "I") (by decide +kernel)) (fun _ h9 => h9) rfl hnm rfl (by decide +kernel) rfl rfl (Nat.le_of_ble_eq_true rfl) dX1_init_16 (fun H locs hP hD hS => ?_)
  have hP : va_P D vwCl [(h, .inr (1, [.int x1, .int x2, .int x3, .int 0, .int 0, .int 0, .int 0, .int 0, .int 0, .int 0]))] H := hP
  have hD : va_D A [(h, .inr (1, [.int x1, .int x2, .int x3, .int 0, .int 0, .int 0, .int 0, .int 0, .int 0, .int 0]))] := hD
  refine lv_aload_n hx hb dX1_init_19 rfl (lv_at hl 0 rfl) ?_
  refine lv_iload hx hb dX1_init_20 (lv_at hl 4 rfl) ?_
  refine va_putF (D := D) (ci := 1) (v := .int x4) (ty := .int) (C := RX1) (T := TX1) (N := 10) hx hb hts hin1 tyX1 tyX1_ok nmX1 hown hK hP hD hS 0 rfl rfl 3 (by decide) (hts (.fieldLink RX1 21 "LotMachine$Citizen" "born" "I") (by decide +kernel)) (fun _ h9 => h9) rfl hnm rfl (by decide +kernel) rfl rfl (Nat.le_of_ble_eq_true rfl) dX1_init_22 (fun H locs hP hD hS => ?_)
  have hP : va_P D vwCl [(h, .inr (1, [.int x1, .int x2, .int x3, .int x4, .int 0, .int 0, .int 0, .int 0, .int 0, .int 0]))] H := hP
  have hD : va_D A [(h, .inr (1, [.int x1, .int x2, .int x3, .int x4, .int 0, .int 0, .int 0, .int 0, .int 0, .int 0]))] := hD
  refine lv_aload_n hx hb dX1_init_25 rfl (lv_at hl 0 rfl) ?_
  refine lv_iconst (v := (-1)) hx hb dX1_init_26 (by decide) ?_
  refine va_put (D := D) (ci := 1) (v := .int (-1)) (ty := .int) (C := RX1) (T := TX1) (N := 10) hx hb hts hin1 tyX1 tyX1_ok nmX1 hown hK hP hD hS 0 rfl rfl 7 (by decide) (hts (.fieldLink RX1 24 "LotMachine$Citizen" "place" "I") (by decide +kernel)) (fun _ h9 => h9) rfl (by decide +kernel) rfl rfl (Nat.le_of_ble_eq_true rfl) dX1_init_27 (fun H locs hP hD hS => ?_)
  have hP : va_P D vwCl [(h, .inr (1, [.int x1, .int x2, .int x3, .int x4, .int 0, .int 0, .int 0, .int (-1), .int 0, .int 0]))] H := hP
  have hD : va_D A [(h, .inr (1, [.int x1, .int x2, .int x3, .int x4, .int 0, .int 0, .int 0, .int (-1), .int 0, .int 0]))] := hD
  refine lv_aload_n hx hb dX1_init_30 rfl (lv_at hl 0 rfl) ?_
  refine lv_iconst (v := (-1)) hx hb dX1_init_31 (by decide) ?_
  refine va_put (D := D) (ci := 1) (v := .int (-1)) (ty := .int) (C := RX1) (T := TX1) (N := 10) hx hb hts hin1 tyX1 tyX1_ok nmX1 hown hK hP hD hS 0 rfl rfl 9 (by decide) (hts (.fieldLink RX1 27 "LotMachine$Citizen" "court" "I") (by decide +kernel)) (fun _ h9 => h9) rfl (by decide +kernel) rfl rfl (Nat.le_of_ble_eq_true rfl) dX1_init_32 (fun H locs hP hD hS => ?_)
  have hP : va_P D vwCl [(h, .inr (1, [.int x1, .int x2, .int x3, .int x4, .int 0, .int 0, .int 0, .int (-1), .int 0, .int (-1)]))] H := hP
  have hD : va_D A [(h, .inr (1, [.int x1, .int x2, .int x3, .int x4, .int 0, .int 0, .int 0, .int (-1), .int 0, .int (-1)]))] := hD
  exact l_ret hx hb hr hlocks hAe hK hP hD hS dX1_init_35 (rfl)
set_option maxHeartbeats 4000000 in
set_option maxRecDepth 100000 in
/-- Tape -/
theorem ctX8_init (l : Launch) (D : va_G) (y : Nat → ClassId) (qs : Nat → Nat × Nat) (h : Nat) : lM l yX8_init wsX8_init ({ frames := 1, cells := 1, slots := 1000, locals := 27 }) 1 1000 D y qs h (.inr (8, [.null, .int 0])) [] (fun w => ∃ a0 : Nat, w = [(h, .inr (8, [.ref a0, .int 0])), (a0, .inl (y 0, 1000, .inl (fun _ => 0)))]) := by
  refine lM_of (cc := cX8_init) (maxL := 1) (by decide) rfl rfl (Nat.le_of_ble_eq_true rfl) ?_
  intro p e s m below meth c A ls hx hb hr hml hts hown hlocks hnm hK hP hD hA hE hAe hl
  have hown : s.vm.findClass RX8 = some m.cls := hown
  have hin8 : ∀ w ∈ wsX80, w ∈ wsX8_init := fun _ h9 => List.mem_cons_of_mem _ (List.mem_append_right _ h9)
  have hl : lv_has ls 1 [(0, .ref h)] := hl
  have hS : va_S A s.heap s.heap [] := va_S.rf
  refine lv_aload_n hx hb dX8_init_0 rfl (lv_at hl 0 rfl) ?_
  refine W.objInit hx hb hown (hts (.methodLink RX8 1 objectInit) (by decide +kernel)) (hts (.instanceMethod objectInit) (by decide +kernel)) (hts (.code objectInit ⟨#[0xb1]⟩ 1 none) (by decide +kernel)) rfl (by rw [hml]; exact hl.1) rfl dX8_init_1 (Nat.le_of_ble_eq_true rfl) (Nat.le_of_ble_eq_true rfl) ?_
  refine W.eq (g2 := F0 m 4 ls []) rfl ?_
  refine lv_aload_n hx hb dX8_init_4 rfl (lv_at hl 0 rfl) ?_
  refine lv_sipush (v := 1000) hx hb dX8_init_5 (by decide) ?_
  refine k_newa (atype := .byte) (ty := .byte) (a0 := (1000, .inl (fun _ => 0))) (N' := 1000) hx hb (hts (.arrayClass .byte) (by decide +kernel)) rfl hK hP hD hS hA (fun _ => rfl) (by decide) (by decide) (by decide) (Nat.le_of_ble_eq_true rfl) (Nat.le_of_ble_eq_true rfl) dX8_init_8 0 rfl (fun h1 h2 => ra_byte h1 h2) (fun q1 H hP hD hS => ?_)
  have hP : va_P D vwCl [(h, .inr (8, [.null, .int 0])), (q1, .inl (y 0, 1000, .inl (fun _ => 0)))] H := hP
  have hD : va_D A [(h, .inr (8, [.null, .int 0])), (q1, .inl (y 0, 1000, .inl (fun _ => 0)))] := hD
  refine W.widen (k := 1) (n := 1000) (by decide) (by decide) ?_
  refine va_putF (D := D) (ci := 8) (v := .ref q1) (ty := .array (.byte)) (C := RX8) (T := TX8) (N := 2) hx hb hts hin8 tyX8 tyX8_ok nmX8 hown hK hP hD hS 0 rfl rfl 0 (by decide) (hts (.fieldLink RX8 9 "LotMachine$Tape" "bytes" "[B") (by decide +kernel)) (fun _ h9 => h9) rfl hnm rfl (by decide +kernel) rfl rfl (Nat.le_of_ble_eq_true rfl) dX8_init_10 (fun H locs hP hD hS => ?_)
  have hP : va_P D vwCl [(h, .inr (8, [.ref q1, .int 0])), (q1, .inl (y 0, 1000, .inl (fun _ => 0)))] H := hP
  have hD : va_D A [(h, .inr (8, [.ref q1, .int 0])), (q1, .inl (y 0, 1000, .inl (fun _ => 0)))] := hD
  exact l_ret hx hb hr hlocks hAe hK hP hD hS dX8_init_13 (⟨q1, rfl⟩)
set_option maxHeartbeats 4000000 in
set_option maxRecDepth 100000 in
/-- Suit -/
theorem ctX7_init (l : Launch) (D : va_G) (y : Nat → ClassId) (qs : Nat → Nat × Nat) (h : Nat) : lM l yX7_init wsX7_init ({ frames := 1, cells := 3, slots := 52, locals := 27 }) 3 52 D y qs h (.inr (7, [.null, .null, .null, .int 0, .int 0, .int 0, .int 0, .int 0, .int 0, .int 0, .int 0, .int 0, .int 0, .int 0, .int 0, .int 0])) [] (fun w => ∃ a0 a1 a2 : Nat, w = [(h, .inr (7, [.ref a0, .ref a1, .ref a2, .int 0, .int 0, .int 0, .int 0, .int 0, .int 0, .int 0, .int 0, .int 0, .int 0, .int 0, .int 0, .int 0])), (a0, .inl (y 1, 25, .inl (fun _ => 0))), (a1, .inl (y 2, 25, .inl (fun _ => 0))), (a2, .inl (y 1, 2, .inl (fun _ => 0)))]) := by
  refine lM_of (cc := cX7_init) (maxL := 1) (by decide) rfl rfl (Nat.le_of_ble_eq_true rfl) ?_
  intro p e s m below meth c A ls hx hb hr hml hts hown hlocks hnm hK hP hD hA hE hAe hl
  have hown : s.vm.findClass RX7 = some m.cls := hown
  have hin7 : ∀ w ∈ wsX70, w ∈ wsX7_init := fun _ h9 => List.mem_cons_of_mem _ (List.mem_append_right _ h9)
  have hl : lv_has ls 1 [(0, .ref h)] := hl
  have hS : va_S A s.heap s.heap [] := va_S.rf
  refine lv_aload_n hx hb dX7_init_0 rfl (lv_at hl 0 rfl) ?_
  refine W.objInit hx hb hown (hts (.methodLink RX7 3 objectInit) (by decide +kernel)) (hts (.instanceMethod objectInit) (by decide +kernel)) (hts (.code objectInit ⟨#[0xb1]⟩ 1 none) (by decide +kernel)) rfl (by rw [hml]; exact hl.1) rfl dX7_init_1 (Nat.le_of_ble_eq_true rfl) (Nat.le_of_ble_eq_true rfl) ?_
  refine W.eq (g2 := F0 m 4 ls []) rfl ?_
  refine lv_aload_n hx hb dX7_init_4 rfl (lv_at hl 0 rfl) ?_
  refine lv_bipush (v := 25) hx hb dX7_init_5 (by decide) ?_
  refine k_newa (atype := .int) (ty := .int) (a0 := (25, .inl (fun _ => 0))) (N' := 25) hx hb (hts (.arrayClass .int) (by decide +kernel)) rfl hK hP hD hS hA (fun _ => rfl) (by decide) (by decide) (by decide) (Nat.le_of_ble_eq_true rfl) (Nat.le_of_ble_eq_true rfl) dX7_init_7 1 rfl (fun h1 h2 => ra_int h1 h2) (fun q1 H hP hD hS => ?_)
  have hP : va_P D vwCl [(h, .inr (7, [.null, .null, .null, .int 0, .int 0, .int 0, .int 0, .int 0, .int 0, .int 0, .int 0, .int 0, .int 0, .int 0, .int 0, .int 0])), (q1, .inl (y 1, 25, .inl (fun _ => 0)))] H := hP
  have hD : va_D A [(h, .inr (7, [.null, .null, .null, .int 0, .int 0, .int 0, .int 0, .int 0, .int 0, .int 0, .int 0, .int 0, .int 0, .int 0, .int 0, .int 0])), (q1, .inl (y 1, 25, .inl (fun _ => 0)))] := hD
  refine W.widen (k := 1) (n := 25) (by decide) (by decide) ?_
  refine va_putF (D := D) (ci := 7) (v := .ref q1) (ty := .array (.int)) (C := RX7) (T := TX7) (N := 16) hx hb hts hin7 tyX7 tyX7_ok nmX7 hown hK hP hD hS 0 rfl rfl 0 (by decide) (hts (.fieldLink RX7 9 "LotMachine$Suit" "discs" "[I") (by decide +kernel)) (fun _ h9 => h9) rfl hnm rfl (by decide +kernel) rfl rfl (Nat.le_of_ble_eq_true rfl) dX7_init_9 (fun H locs hP hD hS => ?_)
  have hP : va_P D vwCl [(h, .inr (7, [.ref q1, .null, .null, .int 0, .int 0, .int 0, .int 0, .int 0, .int 0, .int 0, .int 0, .int 0, .int 0, .int 0, .int 0, .int 0])), (q1, .inl (y 1, 25, .inl (fun _ => 0)))] H := hP
  have hD : va_D A [(h, .inr (7, [.ref q1, .null, .null, .int 0, .int 0, .int 0, .int 0, .int 0, .int 0, .int 0, .int 0, .int 0, .int 0, .int 0, .int 0, .int 0])), (q1, .inl (y 1, 25, .inl (fun _ => 0)))] := hD
  refine lv_aload_n hx hb dX7_init_12 rfl (lv_at hl 0 rfl) ?_
  refine lv_bipush (v := 25) hx hb dX7_init_13 (by decide) ?_
  refine k_newa (atype := .boolean) (ty := .boolean) (a0 := (25, .inl (fun _ => 0))) (N' := 25) hx hb (hts (.arrayClass .boolean) (by decide +kernel)) rfl hK hP hD hS hA (fun _ => rfl) (by decide) (by decide) (by decide) (Nat.le_of_ble_eq_true rfl) (Nat.le_of_ble_eq_true rfl) dX7_init_15 2 rfl (fun h1 h2 => ra_boolean h1 h2) (fun q2 H hP hD hS => ?_)
  have hP : va_P D vwCl [(h, .inr (7, [.ref q1, .null, .null, .int 0, .int 0, .int 0, .int 0, .int 0, .int 0, .int 0, .int 0, .int 0, .int 0, .int 0, .int 0, .int 0])), (q1, .inl (y 1, 25, .inl (fun _ => 0))), (q2, .inl (y 2, 25, .inl (fun _ => 0)))] H := hP
  have hD : va_D A [(h, .inr (7, [.ref q1, .null, .null, .int 0, .int 0, .int 0, .int 0, .int 0, .int 0, .int 0, .int 0, .int 0, .int 0, .int 0, .int 0, .int 0])), (q1, .inl (y 1, 25, .inl (fun _ => 0))), (q2, .inl (y 2, 25, .inl (fun _ => 0)))] := hD
  refine W.widen (k := 2) (n := 50) (by decide) (by decide) ?_
  refine va_putF (D := D) (ci := 7) (v := .ref q2) (ty := .array (.boolean)) (C := RX7) (T := TX7) (N := 16) hx hb hts hin7 tyX7 tyX7_ok nmX7 hown hK hP hD hS 0 rfl rfl 1 (by decide) (hts (.fieldLink RX7 15 "LotMachine$Suit" "struck" "[Z") (by decide +kernel)) (fun _ h9 => h9) rfl hnm rfl (by decide +kernel) rfl rfl (Nat.le_of_ble_eq_true rfl) dX7_init_17 (fun H locs hP hD hS => ?_)
  have hP : va_P D vwCl [(h, .inr (7, [.ref q1, .ref q2, .null, .int 0, .int 0, .int 0, .int 0, .int 0, .int 0, .int 0, .int 0, .int 0, .int 0, .int 0, .int 0, .int 0])), (q1, .inl (y 1, 25, .inl (fun _ => 0))), (q2, .inl (y 2, 25, .inl (fun _ => 0)))] H := hP
  have hD : va_D A [(h, .inr (7, [.ref q1, .ref q2, .null, .int 0, .int 0, .int 0, .int 0, .int 0, .int 0, .int 0, .int 0, .int 0, .int 0, .int 0, .int 0, .int 0])), (q1, .inl (y 1, 25, .inl (fun _ => 0))), (q2, .inl (y 2, 25, .inl (fun _ => 0)))] := hD
  refine lv_aload_n hx hb dX7_init_20 rfl (lv_at hl 0 rfl) ?_
  refine lv_iconst (v := 2) hx hb dX7_init_21 (by decide) ?_
  refine k_newa (atype := .int) (ty := .int) (a0 := (2, .inl (fun _ => 0))) (N' := 2) hx hb (hts (.arrayClass .int) (by decide +kernel)) rfl hK hP hD hS hA (fun _ => rfl) (by decide) (by decide) (by decide) (Nat.le_of_ble_eq_true rfl) (Nat.le_of_ble_eq_true rfl) dX7_init_22 1 rfl (fun h1 h2 => ra_int h1 h2) (fun q3 H hP hD hS => ?_)
  have hP : va_P D vwCl [(h, .inr (7, [.ref q1, .ref q2, .null, .int 0, .int 0, .int 0, .int 0, .int 0, .int 0, .int 0, .int 0, .int 0, .int 0, .int 0, .int 0, .int 0])), (q1, .inl (y 1, 25, .inl (fun _ => 0))), (q2, .inl (y 2, 25, .inl (fun _ => 0))), (q3, .inl (y 1, 2, .inl (fun _ => 0)))] H := hP
  have hD : va_D A [(h, .inr (7, [.ref q1, .ref q2, .null, .int 0, .int 0, .int 0, .int 0, .int 0, .int 0, .int 0, .int 0, .int 0, .int 0, .int 0, .int 0, .int 0])), (q1, .inl (y 1, 25, .inl (fun _ => 0))), (q2, .inl (y 2, 25, .inl (fun _ => 0))), (q3, .inl (y 1, 2, .inl (fun _ => 0)))] := hD
  refine W.widen (k := 3) (n := 52) (by decide) (by decide) ?_
  refine va_putF (D := D) (ci := 7) (v := .ref q3) (ty := .array (.int)) (C := RX7) (T := TX7) (N := 16) hx hb hts hin7 tyX7 tyX7_ok nmX7 hown hK hP hD hS 0 rfl rfl 2 (by decide) (hts (.fieldLink RX7 19 "LotMachine$Suit" "water" "[I") (by decide +kernel)) (fun _ h9 => h9) rfl hnm rfl (by decide +kernel) rfl rfl (Nat.le_of_ble_eq_true rfl) dX7_init_24 (fun H locs hP hD hS => ?_)
  have hP : va_P D vwCl [(h, .inr (7, [.ref q1, .ref q2, .ref q3, .int 0, .int 0, .int 0, .int 0, .int 0, .int 0, .int 0, .int 0, .int 0, .int 0, .int 0, .int 0, .int 0])), (q1, .inl (y 1, 25, .inl (fun _ => 0))), (q2, .inl (y 2, 25, .inl (fun _ => 0))), (q3, .inl (y 1, 2, .inl (fun _ => 0)))] H := hP
  have hD : va_D A [(h, .inr (7, [.ref q1, .ref q2, .ref q3, .int 0, .int 0, .int 0, .int 0, .int 0, .int 0, .int 0, .int 0, .int 0, .int 0, .int 0, .int 0, .int 0])), (q1, .inl (y 1, 25, .inl (fun _ => 0))), (q2, .inl (y 2, 25, .inl (fun _ => 0))), (q3, .inl (y 1, 2, .inl (fun _ => 0)))] := hD
  exact l_ret hx hb hr hlocks hAe hK hP hD hS dX7_init_27 (⟨q1, q2, q3, rfl⟩)
set_option maxHeartbeats 4000000 in
set_option maxRecDepth 100000 in
/-- Court -/
theorem ctX2_init (l : Launch) (D : va_G) (y : Nat → ClassId) (qs : Nat → Nat × Nat) (h : Nat) : lM l yX2_init wsX2_init ({ frames := 2, cells := 5, slots := 93, locals := 47 }) 5 93 D y qs h (.inr (2, [.null, .null, .int 0, .int 0])) [] (fun w => ∃ a0 a1 a2 a3 a4 : Nat, w = [(h, .inr (2, [.ref a0, .ref a1, .int 0, .int 0])), (a0, .inl (y 1, 25, .inl (fun _ => 0))), (a1, .inr (7, [.ref a2, .ref a3, .ref a4, .int 0, .int 0, .int 0, .int 0, .int 0, .int 0, .int 0, .int 0, .int 0, .int 0, .int 0, .int 0, .int 0])), (a2, .inl (y 1, 25, .inl (fun _ => 0))), (a3, .inl (y 2, 25, .inl (fun _ => 0))), (a4, .inl (y 1, 2, .inl (fun _ => 0)))]) := by
  refine lM_of (cc := cX2_init) (maxL := 1) (by decide) rfl rfl (Nat.le_of_ble_eq_true rfl) ?_
  intro p e s m below meth c A ls hx hb hr hml hts hown hlocks hnm hK hP hD hA hE hAe hl
  have hown : s.vm.findClass RX2 = some m.cls := hown
  have hin2 : ∀ w ∈ wsX20, w ∈ wsX2_init := fun _ h9 => List.mem_cons_of_mem _ (List.mem_append_left _ (List.mem_append_right _ h9))
  have hin7 : ∀ w ∈ wsX70, w ∈ wsX2_init := fun _ h9 => List.mem_cons_of_mem _ (List.mem_append_right _ h9)
  have hl : lv_has ls 1 [(0, .ref h)] := hl
  have hS : va_S A s.heap s.heap [] := va_S.rf
  refine lv_aload_n hx hb dX2_init_0 rfl (lv_at hl 0 rfl) ?_
  refine W.objInit hx hb hown (hts (.methodLink RX2 3 objectInit) (by decide +kernel)) (hts (.instanceMethod objectInit) (by decide +kernel)) (hts (.code objectInit ⟨#[0xb1]⟩ 1 none) (by decide +kernel)) rfl (by rw [hml]; exact hl.1) rfl dX2_init_1 (Nat.le_of_ble_eq_true rfl) (Nat.le_of_ble_eq_true rfl) ?_
  refine W.eq (g2 := F0 m 4 ls []) rfl ?_
  refine lv_aload_n hx hb dX2_init_4 rfl (lv_at hl 0 rfl) ?_
  refine lv_bipush (v := 25) hx hb dX2_init_5 (by decide) ?_
  refine k_newa (atype := .int) (ty := .int) (a0 := (25, .inl (fun _ => 0))) (N' := 25) hx hb (hts (.arrayClass .int) (by decide +kernel)) rfl hK hP hD hS hA (fun _ => rfl) (by decide) (by decide) (by decide) (Nat.le_of_ble_eq_true rfl) (Nat.le_of_ble_eq_true rfl) dX2_init_7 1 rfl (fun h1 h2 => ra_int h1 h2) (fun q1 H hP hD hS => ?_)
  have hP : va_P D vwCl [(h, .inr (2, [.null, .null, .int 0, .int 0])), (q1, .inl (y 1, 25, .inl (fun _ => 0)))] H := hP
  have hD : va_D A [(h, .inr (2, [.null, .null, .int 0, .int 0])), (q1, .inl (y 1, 25, .inl (fun _ => 0)))] := hD
  refine W.widen (k := 1) (n := 25) (by decide) (by decide) ?_
  refine va_putF (D := D) (ci := 2) (v := .ref q1) (ty := .array (.int)) (C := RX2) (T := TX2) (N := 4) hx hb hts hin2 tyX2 tyX2_ok nmX2 hown hK hP hD hS 0 rfl rfl 0 (by decide) (hts (.fieldLink RX2 9 "LotMachine$Court" "seats" "[I") (by decide +kernel)) (fun _ h9 => h9) rfl hnm rfl (by decide +kernel) rfl rfl (Nat.le_of_ble_eq_true rfl) dX2_init_9 (fun H locs hP hD hS => ?_)
  have hP : va_P D vwCl [(h, .inr (2, [.ref q1, .null, .int 0, .int 0])), (q1, .inl (y 1, 25, .inl (fun _ => 0)))] H := hP
  have hD : va_D A [(h, .inr (2, [.ref q1, .null, .int 0, .int 0])), (q1, .inl (y 1, 25, .inl (fun _ => 0)))] := hD
  refine lv_aload_n hx hb dX2_init_12 rfl (lv_at hl 0 rfl) ?_
  refine va_new (ci := 7) (fs := [.null, .null, .null, .int 0, .int 0, .int 0, .int 0, .int 0, .int 0, .int 0, .int 0, .int 0, .int 0, .int 0, .int 0, .int 0]) (C := RX7) (T := TX7) (N := 16) hx hb hts hin7 tyX7 tyX7_ok hown (hts (.classLink RX2 15 RX7) (by decide +kernel)) (hts (.instantiable RX7 16) (by decide +kernel)) (hts (.initialized RX7) (by decide +kernel)) hK hP hD hS hA rfl (fun j hj => by rcases (show j = 0 ∨ j = 1 ∨ j = 2 ∨ j = 3 ∨ j = 4 ∨ j = 5 ∨ j = 6 ∨ j = 7 ∨ j = 8 ∨ j = 9 ∨ j = 10 ∨ j = 11 ∨ j = 12 ∨ j = 13 ∨ j = 14 ∨ j = 15 by omega) with rfl | rfl | rfl | rfl | rfl | rfl | rfl | rfl | rfl | rfl | rfl | rfl | rfl | rfl | rfl | rfl <;> rfl) (Nat.le_of_ble_eq_true rfl) (Nat.le_of_ble_eq_true rfl) dX2_init_13 (fun q2 H hP hD hS => ?_)
  have hP : va_P D vwCl [(h, .inr (2, [.ref q1, .null, .int 0, .int 0])), (q1, .inl (y 1, 25, .inl (fun _ => 0))), (q2, .inr (7, [.null, .null, .null, .int 0, .int 0, .int 0, .int 0, .int 0, .int 0, .int 0, .int 0, .int 0, .int 0, .int 0, .int 0, .int 0]))] H := hP
  have hD : va_D A [(h, .inr (2, [.ref q1, .null, .int 0, .int 0])), (q1, .inl (y 1, 25, .inl (fun _ => 0))), (q2, .inr (7, [.null, .null, .null, .int 0, .int 0, .int 0, .int 0, .int 0, .int 0, .int 0, .int 0, .int 0, .int 0, .int 0, .int 0, .int 0]))] := hD
  refine W.widen (k := 2) (n := 41) (by decide) (by decide) ?_
  refine lv_dup hx hb dX2_init_16 rfl ?_
  refine l_callN (W0 := [(h, .inr (2, [.ref q1, .null, .int 0, .int 0])), (q1, .inl (y 1, 25, .inl (fun _ => 0)))]) (As := []) (rest := [.ref q2, .ref h]) ⟨hx, hb, hml, hown, hts⟩ (ctX7_init l D y qs q2) ⟨va_cnB 0 hts gX2_init_X7_init_n17 rfl rfl rfl (hE.2.1.2.2.2.2.2) (hts (.initialized RX7) (by decide +kernel)) (by decide +kernel) ⟨Nat.le_of_ble_eq_true rfl, Nat.le_of_ble_eq_true rfl⟩, rfl, hts (.instanceMethod yX7_init) (by decide +kernel)⟩ hE hK hP hD hS hA rfl hl.1 rfl (Nat.le_of_ble_eq_true rfl) dX2_init_17 ⟨Nat.le_of_ble_eq_true rfl, Nat.le_of_ble_eq_true rfl⟩ (fun w1 H locs hw1 hP hD hS => ?_)
  obtain ⟨q3, q4, q5, rfl⟩ := hw1
  have hP : va_P D vwCl [(h, .inr (2, [.ref q1, .null, .int 0, .int 0])), (q1, .inl (y 1, 25, .inl (fun _ => 0))), (q2, .inr (7, [.ref q3, .ref q4, .ref q5, .int 0, .int 0, .int 0, .int 0, .int 0, .int 0, .int 0, .int 0, .int 0, .int 0, .int 0, .int 0, .int 0])), (q3, .inl (y 1, 25, .inl (fun _ => 0))), (q4, .inl (y 2, 25, .inl (fun _ => 0))), (q5, .inl (y 1, 2, .inl (fun _ => 0)))] H := hP
  have hD : va_D A [(h, .inr (2, [.ref q1, .null, .int 0, .int 0])), (q1, .inl (y 1, 25, .inl (fun _ => 0))), (q2, .inr (7, [.ref q3, .ref q4, .ref q5, .int 0, .int 0, .int 0, .int 0, .int 0, .int 0, .int 0, .int 0, .int 0, .int 0, .int 0, .int 0, .int 0])), (q3, .inl (y 1, 25, .inl (fun _ => 0))), (q4, .inl (y 2, 25, .inl (fun _ => 0))), (q5, .inl (y 1, 2, .inl (fun _ => 0)))] := hD
  refine W.widen (k := 5) (n := 93) (by decide) (by decide) ?_
  refine va_putF (D := D) (ci := 2) (v := .ref q2) (ty := .object "LotMachine$Suit") (C := RX2) (T := TX2) (N := 4) hx hb hts hin2 tyX2 tyX2_ok nmX2 hown hK hP hD hS 0 rfl rfl 1 (by decide) (hts (.fieldLink RX2 18 "LotMachine$Court" "suit" "LLotMachine$Suit;") (by decide +kernel)) (fun _ h9 => h9) rfl hnm rfl (by decide +kernel) rfl rfl (Nat.le_of_ble_eq_true rfl) dX2_init_20 (fun H locs hP hD hS => ?_)
  have hP : va_P D vwCl [(h, .inr (2, [.ref q1, .ref q2, .int 0, .int 0])), (q1, .inl (y 1, 25, .inl (fun _ => 0))), (q2, .inr (7, [.ref q3, .ref q4, .ref q5, .int 0, .int 0, .int 0, .int 0, .int 0, .int 0, .int 0, .int 0, .int 0, .int 0, .int 0, .int 0, .int 0])), (q3, .inl (y 1, 25, .inl (fun _ => 0))), (q4, .inl (y 2, 25, .inl (fun _ => 0))), (q5, .inl (y 1, 2, .inl (fun _ => 0)))] H := hP
  have hD : va_D A [(h, .inr (2, [.ref q1, .ref q2, .int 0, .int 0])), (q1, .inl (y 1, 25, .inl (fun _ => 0))), (q2, .inr (7, [.ref q3, .ref q4, .ref q5, .int 0, .int 0, .int 0, .int 0, .int 0, .int 0, .int 0, .int 0, .int 0, .int 0, .int 0, .int 0, .int 0])), (q3, .inl (y 1, 25, .inl (fun _ => 0))), (q4, .inl (y 2, 25, .inl (fun _ => 0))), (q5, .inl (y 1, 2, .inl (fun _ => 0)))] := hD
  exact l_ret hx hb hr hlocks hAe hK hP hD hS dX2_init_23 (⟨q1, q2, q3, q4, q5, rfl⟩)
set_option maxHeartbeats 4000000 in
set_option maxRecDepth 100000 in
/-- LawText -/
theorem ctX6_init (l : Launch) (D : va_G) (y : Nat → ClassId) (qs : Nat → Nat × Nat) (h : Nat) : lM l yX6_init wsX6_init ({ frames := 2, cells := 1, slots := 51, locals := 44 }) 1 51 D y qs h (.inr (6, [.null, .int 0])) [] (fun w => ∃ a0 : Nat, w = [(h, .inr (6, [.ref a0, .int (-1)])), (a0, .inl (y 1, 51, .inl fPl))]) := by
  refine lM_of (cc := cX6_init) (maxL := 1) (by decide) rfl rfl (Nat.le_of_ble_eq_true rfl) ?_
  intro p e s m below meth c A ls hx hb hr hml hts hown hlocks hnm hK hP hD hA hE hAe hl
  have hown : s.vm.findClass RX6 = some m.cls := hown
  have hin6 : ∀ w ∈ wsX60, w ∈ wsX6_init := fun _ h9 => List.mem_cons_of_mem _ (List.mem_append_right _ h9)
  have hl : lv_has ls 1 [(0, .ref h)] := hl
  have hS : va_S A s.heap s.heap [] := va_S.rf
  refine lv_aload_n hx hb dX6_init_0 rfl (lv_at hl 0 rfl) ?_
  refine W.objInit hx hb hown (hts (.methodLink RX6 3 objectInit) (by decide +kernel)) (hts (.instanceMethod objectInit) (by decide +kernel)) (hts (.code objectInit ⟨#[0xb1]⟩ 1 none) (by decide +kernel)) rfl (by rw [hml]; exact hl.1) rfl dX6_init_1 (Nat.le_of_ble_eq_true rfl) (Nat.le_of_ble_eq_true rfl) ?_
  refine W.eq (g2 := F0 m 4 ls []) rfl ?_
  refine lv_aload_n hx hb dX6_init_4 rfl (lv_at hl 0 rfl) ?_
  refine lv_bipush (v := 51) hx hb dX6_init_5 (by decide) ?_
  refine k_newa (atype := .int) (ty := .int) (a0 := (51, .inl (fun _ => 0))) (N' := 51) hx hb (hts (.arrayClass .int) (by decide +kernel)) rfl hK hP hD hS hA (fun _ => rfl) (by decide) (by decide) (by decide) (Nat.le_of_ble_eq_true rfl) (Nat.le_of_ble_eq_true rfl) dX6_init_7 1 rfl (fun h1 h2 => ra_int h1 h2) (fun q1 H hP hD hS => ?_)
  have hP : va_P D vwCl [(h, .inr (6, [.null, .int 0])), (q1, .inl (y 1, 51, .inl (fun _ => 0)))] H := hP
  have hD : va_D A [(h, .inr (6, [.null, .int 0])), (q1, .inl (y 1, 51, .inl (fun _ => 0)))] := hD
  refine W.widen (k := 1) (n := 51) (by decide) (by decide) ?_
  refine va_putF (D := D) (ci := 6) (v := .ref q1) (ty := .array (.int)) (C := RX6) (T := TX6) (N := 2) hx hb hts hin6 tyX6 tyX6_ok nmX6 hown hK hP hD hS 0 rfl rfl 0 (by decide) (hts (.fieldLink RX6 11 "LotMachine$LawText" "values" "[I") (by decide +kernel)) (fun _ h9 => h9) rfl hnm rfl (by decide +kernel) rfl rfl (Nat.le_of_ble_eq_true rfl) dX6_init_9 (fun H locs hP hD hS => ?_)
  have hP : va_P D vwCl [(h, .inr (6, [.ref q1, .int 0])), (q1, .inl (y 1, 51, .inl (fun _ => 0)))] H := hP
  have hD : va_D A [(h, .inr (6, [.ref q1, .int 0])), (q1, .inl (y 1, 51, .inl (fun _ => 0)))] := hD
  refine lv_aload_n hx hb dX6_init_12 rfl (lv_at hl 0 rfl) ?_
  refine lv_iconst (v := (-1)) hx hb dX6_init_13 (by decide) ?_
  refine va_put (D := D) (ci := 6) (v := .int (-1)) (ty := .int) (C := RX6) (T := TX6) (N := 2) hx hb hts hin6 tyX6 tyX6_ok nmX6 hown hK hP hD hS 0 rfl rfl 1 (by decide) (hts (.fieldLink RX6 15 "LotMachine$LawText" "firstDay" "I") (by decide +kernel)) (fun _ h9 => h9) rfl (by decide +kernel) rfl rfl (Nat.le_of_ble_eq_true rfl) dX6_init_14 (fun H locs hP hD hS => ?_)
  have hP : va_P D vwCl [(h, .inr (6, [.ref q1, .int (-1)])), (q1, .inl (y 1, 51, .inl (fun _ => 0)))] H := hP
  have hD : va_D A [(h, .inr (6, [.ref q1, .int (-1)])), (q1, .inl (y 1, 51, .inl (fun _ => 0)))] := hD
  refine lv_aload_n hx hb dX6_init_17 rfl (lv_at hl 0 rfl) ?_
  have hP : va_P D vwCl (cW (adL h q1) y xL [(25, 0), (26, 0)]) H := hP
  have hD : va_D A (cW (adL h q1) y xL [(25, 0), (26, 0)]) := hD
  refine c_callv (ci := 6) (q := (RX6, TX6, 2)) (κ := 25) (i := 0) (As := []) (rest := []) ⟨hx, hb, hml, hown, hts⟩ (ctX6_forget_m l D y (adL h q1) xL [(25, 0), (26, 0)] qs 0 (by simp) (by simp)) (cwV 0 hts gX6_init_X6_forget rfl rfl rfl (by decide +kernel) ⟨Nat.le_of_ble_eq_true rfl, Nat.le_of_ble_eq_true rfl⟩) (by simp) (fun _ _ _ => ⟨_, rfl⟩) rfl hE.1 hK hP hD hS hA rfl hl.1 rfl (Nat.le_of_ble_eq_true rfl) dX6_init_18 ⟨Nat.le_of_ble_eq_true rfl, Nat.le_of_ble_eq_true rfl⟩ (fun x1 H locs hq hP hD hS => ?_)
  rw [hq] at hP hD
  have e25 : (cForget xL 0).1 25 0 1 = -1 := (cForget_k xL 0).1 25 0 1 (by decide)
  have hP : va_P D vwCl [(h, .inr (6, [.ref q1, .int ((cForget xL 0).1 25 0 1)])), (q1, .inl (y 1, 51, .inl fPl))] H := hP
  have hD : va_D A [(h, .inr (6, [.ref q1, .int ((cForget xL 0).1 25 0 1)])), (q1, .inl (y 1, 51, .inl fPl))] := hD
  rw [e25] at hP hD
  exact l_ret hx hb hr hlocks hAe hK hP hD hS dX6_init_21 (⟨q1, rfl⟩)
set_option maxHeartbeats 4000000 in
set_option maxRecDepth 100000 in
/-- LawReader -/
theorem ctX5_init (l : Launch) (D : va_G) (y : Nat → ClassId) (qs : Nat → Nat × Nat) (h : Nat) (tp : Nat) : lM l yX5_init wsX5_init ({ frames := 3, cells := 4, slots := 63, locals := 64 }) 4 63 D y qs h (.inr (5, [.null, .null, .null, .null, .int 0, .int 0, .int 0, .int 0, .int 0, .int 0])) [.ref tp] (fun w => ∃ a0 a1 a2 a3 : Nat, w = [(h, .inr (5, [.ref tp, .ref a0, .ref a2, .ref a3, .int 0, .int (-1), .int 0, .int 0, .int 0, .int 0])), (a0, .inr (6, [.ref a1, .int (-1)])), (a1, .inl (y 1, 51, .inl fPl)), (a2, .inl (y 2, 4, .inl (fun _ => 0))), (a3, .inl (y 2, 6, .inl (fun _ => 0)))]) := by
  refine lM_of (cc := cX5_init) (maxL := 2) (by decide) rfl rfl (Nat.le_of_ble_eq_true rfl) ?_
  intro p e s m below meth c A ls hx hb hr hml hts hown hlocks hnm hK hP hD hA hE hAe hl
  have hown : s.vm.findClass RX5 = some m.cls := hown
  have hin6 : ∀ w ∈ wsX60, w ∈ wsX5_init := fun _ h9 => List.mem_cons_of_mem _ (List.mem_append_left _ (List.mem_append_right _ h9))
  have hin5 : ∀ w ∈ wsX50, w ∈ wsX5_init := fun _ h9 => List.mem_cons_of_mem _ (List.mem_append_right _ h9)
  have hl : lv_has ls 2 [(0, .ref h), (1, .ref tp)] := hl
  have hS : va_S A s.heap s.heap [] := va_S.rf
  refine lv_aload_n hx hb dX5_init_0 rfl (lv_at hl 0 rfl) ?_
  refine W.objInit hx hb hown (hts (.methodLink RX5 3 objectInit) (by decide +kernel)) (hts (.instanceMethod objectInit) (by decide +kernel)) (hts (.code objectInit ⟨#[0xb1]⟩ 1 none) (by decide +kernel)) rfl (by rw [hml]; exact hl.1) rfl dX5_init_1 (Nat.le_of_ble_eq_true rfl) (Nat.le_of_ble_eq_true rfl) ?_
  refine W.eq (g2 := F0 m 4 ls []) rfl ?_
  refine lv_aload_n hx hb dX5_init_4 rfl (lv_at hl 0 rfl) ?_
  refine va_new (ci := 6) (fs := [.null, .int 0]) (C := RX6) (T := TX6) (N := 2) hx hb hts hin6 tyX6 tyX6_ok hown (hts (.classLink RX5 9 RX6) (by decide +kernel)) (hts (.instantiable RX6 2) (by decide +kernel)) (hts (.initialized RX6) (by decide +kernel)) hK hP hD hS hA rfl (fun j hj => by rcases (show j = 0 ∨ j = 1 by omega) with rfl | rfl <;> rfl) (Nat.le_of_ble_eq_true rfl) (Nat.le_of_ble_eq_true rfl) dX5_init_5 (fun q1 H hP hD hS => ?_)
  have hP : va_P D vwCl [(h, .inr (5, [.null, .null, .null, .null, .int 0, .int 0, .int 0, .int 0, .int 0, .int 0])), (q1, .inr (6, [.null, .int 0]))] H := hP
  have hD : va_D A [(h, .inr (5, [.null, .null, .null, .null, .int 0, .int 0, .int 0, .int 0, .int 0, .int 0])), (q1, .inr (6, [.null, .int 0]))] := hD
  refine W.widen (k := 1) (n := 2) (by decide) (by decide) ?_
  refine lv_dup hx hb dX5_init_8 rfl ?_
  refine l_call (W0 := [(h, .inr (5, [.null, .null, .null, .null, .int 0, .int 0, .int 0, .int 0, .int 0, .int 0]))]) (As := []) (rest := [.ref q1, .ref h]) ⟨hx, hb, hml, hown, hts⟩ (ctX6_init l D y qs q1) (cwI 0 hts gX5_init_X6_init rfl rfl rfl (hts (.initialized RX6) (by decide +kernel)) (hts (.methodLink RX5 11 yX6_init) (by decide +kernel)) (hts (.instanceMethod yX6_init) (by decide +kernel)) rfl (by decide +kernel) ⟨Nat.le_of_ble_eq_true rfl, Nat.le_of_ble_eq_true rfl⟩) hE hK hP hD hS hA rfl hl.1 rfl (Nat.le_of_ble_eq_true rfl) dX5_init_9 ⟨Nat.le_of_ble_eq_true rfl, Nat.le_of_ble_eq_true rfl⟩ (fun w1 H locs hw1 hP hD hS => ?_)
  obtain ⟨q2, rfl⟩ := hw1
  have hP : va_P D vwCl [(h, .inr (5, [.null, .null, .null, .null, .int 0, .int 0, .int 0, .int 0, .int 0, .int 0])), (q1, .inr (6, [.ref q2, .int (-1)])), (q2, .inl (y 1, 51, .inl fPl))] H := hP
  have hD : va_D A [(h, .inr (5, [.null, .null, .null, .null, .int 0, .int 0, .int 0, .int 0, .int 0, .int 0])), (q1, .inr (6, [.ref q2, .int (-1)])), (q2, .inl (y 1, 51, .inl fPl))] := hD
  refine W.widen (k := 2) (n := 53) (by decide) (by decide) ?_
  refine va_putF (D := D) (ci := 5) (v := .ref q1) (ty := .object "LotMachine$LawText") (C := RX5) (T := TX5) (N := 10) hx hb hts hin5 tyX5 tyX5_ok nmX5 hown hK hP hD hS 0 rfl rfl 1 (by decide) (hts (.fieldLink RX5 12 "LotMachine$LawReader" "draft" "LLotMachine$LawText;") (by decide +kernel)) (fun _ h9 => h9) rfl hnm rfl (by decide +kernel) rfl rfl (Nat.le_of_ble_eq_true rfl) dX5_init_12 (fun H locs hP hD hS => ?_)
  have hP : va_P D vwCl [(h, .inr (5, [.null, .ref q1, .null, .null, .int 0, .int 0, .int 0, .int 0, .int 0, .int 0])), (q1, .inr (6, [.ref q2, .int (-1)])), (q2, .inl (y 1, 51, .inl fPl))] H := hP
  have hD : va_D A [(h, .inr (5, [.null, .ref q1, .null, .null, .int 0, .int 0, .int 0, .int 0, .int 0, .int 0])), (q1, .inr (6, [.ref q2, .int (-1)])), (q2, .inl (y 1, 51, .inl fPl))] := hD
  refine lv_aload_n hx hb dX5_init_15 rfl (lv_at hl 0 rfl) ?_
  refine lv_iconst (v := 4) hx hb dX5_init_16 (by decide) ?_
  refine k_newa (atype := .boolean) (ty := .boolean) (a0 := (4, .inl (fun _ => 0))) (N' := 4) hx hb (hts (.arrayClass .boolean) (by decide +kernel)) rfl hK hP hD hS hA (fun _ => rfl) (by decide) (by decide) (by decide) (Nat.le_of_ble_eq_true rfl) (Nat.le_of_ble_eq_true rfl) dX5_init_17 2 rfl (fun h1 h2 => ra_boolean h1 h2) (fun q3 H hP hD hS => ?_)
  have hP : va_P D vwCl [(h, .inr (5, [.null, .ref q1, .null, .null, .int 0, .int 0, .int 0, .int 0, .int 0, .int 0])), (q1, .inr (6, [.ref q2, .int (-1)])), (q2, .inl (y 1, 51, .inl fPl)), (q3, .inl (y 2, 4, .inl (fun _ => 0)))] H := hP
  have hD : va_D A [(h, .inr (5, [.null, .ref q1, .null, .null, .int 0, .int 0, .int 0, .int 0, .int 0, .int 0])), (q1, .inr (6, [.ref q2, .int (-1)])), (q2, .inl (y 1, 51, .inl fPl)), (q3, .inl (y 2, 4, .inl (fun _ => 0)))] := hD
  refine W.widen (k := 3) (n := 57) (by decide) (by decide) ?_
  refine va_putF (D := D) (ci := 5) (v := .ref q3) (ty := .array (.boolean)) (C := RX5) (T := TX5) (N := 10) hx hb hts hin5 tyX5 tyX5_ok nmX5 hown hK hP hD hS 0 rfl rfl 2 (by decide) (hts (.fieldLink RX5 18 "LotMachine$LawReader" "told" "[Z") (by decide +kernel)) (fun _ h9 => h9) rfl hnm rfl (by decide +kernel) rfl rfl (Nat.le_of_ble_eq_true rfl) dX5_init_19 (fun H locs hP hD hS => ?_)
  have hP : va_P D vwCl [(h, .inr (5, [.null, .ref q1, .ref q3, .null, .int 0, .int 0, .int 0, .int 0, .int 0, .int 0])), (q1, .inr (6, [.ref q2, .int (-1)])), (q2, .inl (y 1, 51, .inl fPl)), (q3, .inl (y 2, 4, .inl (fun _ => 0)))] H := hP
  have hD : va_D A [(h, .inr (5, [.null, .ref q1, .ref q3, .null, .int 0, .int 0, .int 0, .int 0, .int 0, .int 0])), (q1, .inr (6, [.ref q2, .int (-1)])), (q2, .inl (y 1, 51, .inl fPl)), (q3, .inl (y 2, 4, .inl (fun _ => 0)))] := hD
  refine lv_aload_n hx hb dX5_init_22 rfl (lv_at hl 0 rfl) ?_
  refine lv_bipush (v := 6) hx hb dX5_init_23 (by decide) ?_
  refine k_newa (atype := .boolean) (ty := .boolean) (a0 := (6, .inl (fun _ => 0))) (N' := 6) hx hb (hts (.arrayClass .boolean) (by decide +kernel)) rfl hK hP hD hS hA (fun _ => rfl) (by decide) (by decide) (by decide) (Nat.le_of_ble_eq_true rfl) (Nat.le_of_ble_eq_true rfl) dX5_init_25 2 rfl (fun h1 h2 => ra_boolean h1 h2) (fun q4 H hP hD hS => ?_)
  have hP : va_P D vwCl [(h, .inr (5, [.null, .ref q1, .ref q3, .null, .int 0, .int 0, .int 0, .int 0, .int 0, .int 0])), (q1, .inr (6, [.ref q2, .int (-1)])), (q2, .inl (y 1, 51, .inl fPl)), (q3, .inl (y 2, 4, .inl (fun _ => 0))), (q4, .inl (y 2, 6, .inl (fun _ => 0)))] H := hP
  have hD : va_D A [(h, .inr (5, [.null, .ref q1, .ref q3, .null, .int 0, .int 0, .int 0, .int 0, .int 0, .int 0])), (q1, .inr (6, [.ref q2, .int (-1)])), (q2, .inl (y 1, 51, .inl fPl)), (q3, .inl (y 2, 4, .inl (fun _ => 0))), (q4, .inl (y 2, 6, .inl (fun _ => 0)))] := hD
  refine W.widen (k := 4) (n := 63) (by decide) (by decide) ?_
  refine va_putF (D := D) (ci := 5) (v := .ref q4) (ty := .array (.boolean)) (C := RX5) (T := TX5) (N := 10) hx hb hts hin5 tyX5 tyX5_ok nmX5 hown hK hP hD hS 0 rfl rfl 3 (by decide) (hts (.fieldLink RX5 22 "LotMachine$LawReader" "toldSuits" "[Z") (by decide +kernel)) (fun _ h9 => h9) rfl hnm rfl (by decide +kernel) rfl rfl (Nat.le_of_ble_eq_true rfl) dX5_init_27 (fun H locs hP hD hS => ?_)
  have hP : va_P D vwCl [(h, .inr (5, [.null, .ref q1, .ref q3, .ref q4, .int 0, .int 0, .int 0, .int 0, .int 0, .int 0])), (q1, .inr (6, [.ref q2, .int (-1)])), (q2, .inl (y 1, 51, .inl fPl)), (q3, .inl (y 2, 4, .inl (fun _ => 0))), (q4, .inl (y 2, 6, .inl (fun _ => 0)))] H := hP
  have hD : va_D A [(h, .inr (5, [.null, .ref q1, .ref q3, .ref q4, .int 0, .int 0, .int 0, .int 0, .int 0, .int 0])), (q1, .inr (6, [.ref q2, .int (-1)])), (q2, .inl (y 1, 51, .inl fPl)), (q3, .inl (y 2, 4, .inl (fun _ => 0))), (q4, .inl (y 2, 6, .inl (fun _ => 0)))] := hD
  refine lv_aload_n hx hb dX5_init_30 rfl (lv_at hl 0 rfl) ?_
  refine lv_aload_n hx hb dX5_init_31 rfl (lv_at hl 1 rfl) ?_
  refine va_putF (D := D) (ci := 5) (v := .ref tp) (ty := .object "LotMachine$Tape") (C := RX5) (T := TX5) (N := 10) hx hb hts hin5 tyX5 tyX5_ok nmX5 hown hK hP hD hS 0 rfl rfl 0 (by decide) (hts (.fieldLink RX5 25 "LotMachine$LawReader" "tape" "LLotMachine$Tape;") (by decide +kernel)) (fun _ h9 => h9) rfl hnm rfl (by decide +kernel) rfl rfl (Nat.le_of_ble_eq_true rfl) dX5_init_32 (fun H locs hP hD hS => ?_)
  have hP : va_P D vwCl [(h, .inr (5, [.ref tp, .ref q1, .ref q3, .ref q4, .int 0, .int 0, .int 0, .int 0, .int 0, .int 0])), (q1, .inr (6, [.ref q2, .int (-1)])), (q2, .inl (y 1, 51, .inl fPl)), (q3, .inl (y 2, 4, .inl (fun _ => 0))), (q4, .inl (y 2, 6, .inl (fun _ => 0)))] H := hP
  have hD : va_D A [(h, .inr (5, [.ref tp, .ref q1, .ref q3, .ref q4, .int 0, .int 0, .int 0, .int 0, .int 0, .int 0])), (q1, .inr (6, [.ref q2, .int (-1)])), (q2, .inl (y 1, 51, .inl fPl)), (q3, .inl (y 2, 4, .inl (fun _ => 0))), (q4, .inl (y 2, 6, .inl (fun _ => 0)))] := hD
  refine lv_aload_n hx hb dX5_init_35 rfl (lv_at hl 0 rfl) ?_
  refine lv_iconst (v := (-1)) hx hb dX5_init_36 (by decide) ?_
  refine va_put (D := D) (ci := 5) (v := .int (-1)) (ty := .int) (C := RX5) (T := TX5) (N := 10) hx hb hts hin5 tyX5 tyX5_ok nmX5 hown hK hP hD hS 0 rfl rfl 5 (by decide) (hts (.fieldLink RX5 29 "LotMachine$LawReader" "faultPlace" "I") (by decide +kernel)) (fun _ h9 => h9) rfl (by decide +kernel) rfl rfl (Nat.le_of_ble_eq_true rfl) dX5_init_37 (fun H locs hP hD hS => ?_)
  have hP : va_P D vwCl [(h, .inr (5, [.ref tp, .ref q1, .ref q3, .ref q4, .int 0, .int (-1), .int 0, .int 0, .int 0, .int 0])), (q1, .inr (6, [.ref q2, .int (-1)])), (q2, .inl (y 1, 51, .inl fPl)), (q3, .inl (y 2, 4, .inl (fun _ => 0))), (q4, .inl (y 2, 6, .inl (fun _ => 0)))] H := hP
  have hD : va_D A [(h, .inr (5, [.ref tp, .ref q1, .ref q3, .ref q4, .int 0, .int (-1), .int 0, .int 0, .int 0, .int 0])), (q1, .inr (6, [.ref q2, .int (-1)])), (q2, .inl (y 1, 51, .inl fPl)), (q3, .inl (y 2, 4, .inl (fun _ => 0))), (q4, .inl (y 2, 6, .inl (fun _ => 0)))] := hD
  exact l_ret hx hb hr hlocks hAe hK hP hD hS dX5_init_40 (⟨q1, q2, q3, q4, rfl⟩)
set_option maxHeartbeats 4000000 in
set_option maxRecDepth 100000 in
/-- LawBook -/
theorem ctX4_init (l : Launch) (D : va_G) (y : Nat → ClassId) (qs : Nat → Nat × Nat) (h : Nat) : lM l yX4_init wsX4_init ({ frames := 3, cells := 3, slots := 68, locals := 64 }) 3 68 D y qs h (.inr (4, [.null, .null, .int 0])) [] (fun w => ∃ a0 a1 a2 : Nat, w = [(h, .inr (4, [.ref a0, .ref a1, .int 0])), (a0, .inl (y 5, 15, .inr (.inr (.inr (.inr (fun _ => none)))))), (a1, .inr (6, [.ref a2, .int (-1)])), (a2, .inl (y 1, 51, .inl fPl))]) := by
  refine lM_of (cc := cX4_init) (maxL := 1) (by decide) rfl rfl (Nat.le_of_ble_eq_true rfl) ?_
  intro p e s m below meth c A ls hx hb hr hml hts hown hlocks hnm hK hP hD hA hE hAe hl
  have hown : s.vm.findClass RX4 = some m.cls := hown
  have hin4 : ∀ w ∈ wsX40, w ∈ wsX4_init := fun _ h9 => List.mem_cons_of_mem _ (List.mem_append_left _ (List.mem_append_right _ h9))
  have hin6 : ∀ w ∈ wsX60, w ∈ wsX4_init := fun _ h9 => List.mem_cons_of_mem _ (List.mem_append_right _ h9)
  have hl : lv_has ls 1 [(0, .ref h)] := hl
  have hS : va_S A s.heap s.heap [] := va_S.rf
  refine lv_aload_n hx hb dX4_init_0 rfl (lv_at hl 0 rfl) ?_
  refine W.objInit hx hb hown (hts (.methodLink RX4 3 objectInit) (by decide +kernel)) (hts (.instanceMethod objectInit) (by decide +kernel)) (hts (.code objectInit ⟨#[0xb1]⟩ 1 none) (by decide +kernel)) rfl (by rw [hml]; exact hl.1) rfl dX4_init_1 (Nat.le_of_ble_eq_true rfl) (Nat.le_of_ble_eq_true rfl) ?_
  refine W.eq (g2 := F0 m 4 ls []) rfl ?_
  refine lv_aload_n hx hb dX4_init_4 rfl (lv_at hl 0 rfl) ?_
  refine lv_bipush (v := 15) hx hb dX4_init_5 (by decide) ?_
  refine k_newq (N' := 15) hx hb hown (hts (.classLink RX4 11 RX6) (by decide +kernel)) hE.2.2.2.1 hK hP hD hS hA (by decide) (by decide) (by decide) (Nat.le_of_ble_eq_true rfl) (Nat.le_of_ble_eq_true rfl) dX4_init_7 5 rfl (fun q1 H hP hD hS => ?_)
  have hP : va_P D vwCl [(h, .inr (4, [.null, .null, .int 0])), (q1, .inl (y 5, 15, .inr (.inr (.inr (.inr (fun _ => none))))))] H := hP
  have hD : va_D A [(h, .inr (4, [.null, .null, .int 0])), (q1, .inl (y 5, 15, .inr (.inr (.inr (.inr (fun _ => none))))))] := hD
  refine W.widen (k := 1) (n := 15) (by decide) (by decide) ?_
  refine va_putF (D := D) (ci := 4) (v := .ref q1) (ty := .array (.object "LotMachine$LawText")) (C := RX4) (T := TX4) (N := 3) hx hb hts hin4 tyX4 tyX4_ok nmX4 hown hK hP hD hS 0 rfl rfl 0 (by decide) (hts (.fieldLink RX4 13 "LotMachine$LawBook" "texts" "[LLotMachine$LawText;") (by decide +kernel)) (fun _ h9 => h9) rfl hnm rfl (by decide +kernel) rfl rfl (Nat.le_of_ble_eq_true rfl) dX4_init_10 (fun H locs hP hD hS => ?_)
  have hP : va_P D vwCl [(h, .inr (4, [.ref q1, .null, .int 0])), (q1, .inl (y 5, 15, .inr (.inr (.inr (.inr (fun _ => none))))))] H := hP
  have hD : va_D A [(h, .inr (4, [.ref q1, .null, .int 0])), (q1, .inl (y 5, 15, .inr (.inr (.inr (.inr (fun _ => none))))))] := hD
  refine lv_aload_n hx hb dX4_init_13 rfl (lv_at hl 0 rfl) ?_
  refine va_new (ci := 6) (fs := [.null, .int 0]) (C := RX6) (T := TX6) (N := 2) hx hb hts hin6 tyX6 tyX6_ok hown (hts (.classLink RX4 11 RX6) (by decide +kernel)) (hts (.instantiable RX6 2) (by decide +kernel)) (hts (.initialized RX6) (by decide +kernel)) hK hP hD hS hA rfl (fun j hj => by rcases (show j = 0 ∨ j = 1 by omega) with rfl | rfl <;> rfl) (Nat.le_of_ble_eq_true rfl) (Nat.le_of_ble_eq_true rfl) dX4_init_14 (fun q2 H hP hD hS => ?_)
  have hP : va_P D vwCl [(h, .inr (4, [.ref q1, .null, .int 0])), (q1, .inl (y 5, 15, .inr (.inr (.inr (.inr (fun _ => none)))))), (q2, .inr (6, [.null, .int 0]))] H := hP
  have hD : va_D A [(h, .inr (4, [.ref q1, .null, .int 0])), (q1, .inl (y 5, 15, .inr (.inr (.inr (.inr (fun _ => none)))))), (q2, .inr (6, [.null, .int 0]))] := hD
  refine W.widen (k := 2) (n := 17) (by decide) (by decide) ?_
  refine lv_dup hx hb dX4_init_17 rfl ?_
  refine l_call (W0 := [(h, .inr (4, [.ref q1, .null, .int 0])), (q1, .inl (y 5, 15, .inr (.inr (.inr (.inr (fun _ => none))))))]) (As := []) (rest := [.ref q2, .ref h]) ⟨hx, hb, hml, hown, hts⟩ (ctX6_init l D y qs q2) (cwI 0 hts gX4_init_X6_init rfl rfl rfl (hts (.initialized RX6) (by decide +kernel)) (hts (.methodLink RX4 17 yX6_init) (by decide +kernel)) (hts (.instanceMethod yX6_init) (by decide +kernel)) rfl (by decide +kernel) ⟨Nat.le_of_ble_eq_true rfl, Nat.le_of_ble_eq_true rfl⟩) hE hK hP hD hS hA rfl hl.1 rfl (Nat.le_of_ble_eq_true rfl) dX4_init_18 ⟨Nat.le_of_ble_eq_true rfl, Nat.le_of_ble_eq_true rfl⟩ (fun w1 H locs hw1 hP hD hS => ?_)
  obtain ⟨q3, rfl⟩ := hw1
  have hP : va_P D vwCl [(h, .inr (4, [.ref q1, .null, .int 0])), (q1, .inl (y 5, 15, .inr (.inr (.inr (.inr (fun _ => none)))))), (q2, .inr (6, [.ref q3, .int (-1)])), (q3, .inl (y 1, 51, .inl fPl))] H := hP
  have hD : va_D A [(h, .inr (4, [.ref q1, .null, .int 0])), (q1, .inl (y 5, 15, .inr (.inr (.inr (.inr (fun _ => none)))))), (q2, .inr (6, [.ref q3, .int (-1)])), (q3, .inl (y 1, 51, .inl fPl))] := hD
  refine W.widen (k := 3) (n := 68) (by decide) (by decide) ?_
  refine va_putF (D := D) (ci := 4) (v := .ref q2) (ty := .object "LotMachine$LawText") (C := RX4) (T := TX4) (N := 3) hx hb hts hin4 tyX4 tyX4_ok nmX4 hown hK hP hD hS 0 rfl rfl 1 (by decide) (hts (.fieldLink RX4 18 "LotMachine$LawBook" "custom" "LLotMachine$LawText;") (by decide +kernel)) (fun _ h9 => h9) rfl hnm rfl (by decide +kernel) rfl rfl (Nat.le_of_ble_eq_true rfl) dX4_init_21 (fun H locs hP hD hS => ?_)
  have hP : va_P D vwCl [(h, .inr (4, [.ref q1, .ref q2, .int 0])), (q1, .inl (y 5, 15, .inr (.inr (.inr (.inr (fun _ => none)))))), (q2, .inr (6, [.ref q3, .int (-1)])), (q3, .inl (y 1, 51, .inl fPl))] H := hP
  have hD : va_D A [(h, .inr (4, [.ref q1, .ref q2, .int 0])), (q1, .inl (y 5, 15, .inr (.inr (.inr (.inr (fun _ => none)))))), (q2, .inr (6, [.ref q3, .int (-1)])), (q3, .inl (y 1, 51, .inl fPl))] := hD
  exact l_ret hx hb hr hlocks hAe hK hP hD hS dX4_init_24 (⟨q1, q2, q3, rfl⟩)
set_option maxHeartbeats 4000000 in
set_option maxRecDepth 100000 in
/-- Dawn -/
theorem ctX3_init (l : Launch) (D : va_G) (y : Nat → ClassId) (qs : Nat → Nat × Nat) (h : Nat) : lM l yX3_init wsX3_init ({ frames := 1, cells := 4, slots := 360, locals := 27 }) 4 360 D y qs h (.inr (3, [.null, .null, .null, .null, .int 0, .int 0, .int 0])) [] (fun w => ∃ a0 a1 a2 a3 : Nat, w = [(h, .inr (3, [.ref a0, .ref a1, .ref a2, .ref a3, .int 0, .int 0, .int 0])), (a0, .inl (y 4, 150, .inr (.inr (.inr (.inr (fun _ => none)))))), (a1, .inl (y 1, 50, .inl (fun _ => 0))), (a2, .inl (y 2, 10, .inl (fun _ => 0))), (a3, .inl (y 4, 150, .inr (.inr (.inr (.inr (fun _ => none))))))]) := by
  refine lM_of (cc := cX3_init) (maxL := 1) (by decide) rfl rfl (Nat.le_of_ble_eq_true rfl) ?_
  intro p e s m below meth c A ls hx hb hr hml hts hown hlocks hnm hK hP hD hA hE hAe hl
  have hown : s.vm.findClass RX3 = some m.cls := hown
  have hin3 : ∀ w ∈ wsX30, w ∈ wsX3_init := fun _ h9 => List.mem_cons_of_mem _ (List.mem_append_right _ h9)
  have hl : lv_has ls 1 [(0, .ref h)] := hl
  have hS : va_S A s.heap s.heap [] := va_S.rf
  refine lv_aload_n hx hb dX3_init_0 rfl (lv_at hl 0 rfl) ?_
  refine W.objInit hx hb hown (hts (.methodLink RX3 3 objectInit) (by decide +kernel)) (hts (.instanceMethod objectInit) (by decide +kernel)) (hts (.code objectInit ⟨#[0xb1]⟩ 1 none) (by decide +kernel)) rfl (by rw [hml]; exact hl.1) rfl dX3_init_1 (Nat.le_of_ble_eq_true rfl) (Nat.le_of_ble_eq_true rfl) ?_
  refine W.eq (g2 := F0 m 4 ls []) rfl ?_
  refine lv_aload_n hx hb dX3_init_4 rfl (lv_at hl 0 rfl) ?_
  refine lv_sipush (v := 150) hx hb dX3_init_5 (by decide) ?_
  refine k_newq (N' := 150) hx hb hown (hts (.classLink RX3 9 RX1) (by decide +kernel)) hE.2.2.1 hK hP hD hS hA (by decide) (by decide) (by decide) (Nat.le_of_ble_eq_true rfl) (Nat.le_of_ble_eq_true rfl) dX3_init_8 4 rfl (fun q1 H hP hD hS => ?_)
  have hP : va_P D vwCl [(h, .inr (3, [.null, .null, .null, .null, .int 0, .int 0, .int 0])), (q1, .inl (y 4, 150, .inr (.inr (.inr (.inr (fun _ => none))))))] H := hP
  have hD : va_D A [(h, .inr (3, [.null, .null, .null, .null, .int 0, .int 0, .int 0])), (q1, .inl (y 4, 150, .inr (.inr (.inr (.inr (fun _ => none))))))] := hD
  refine W.widen (k := 1) (n := 150) (by decide) (by decide) ?_
  refine va_putF (D := D) (ci := 3) (v := .ref q1) (ty := .array (.object "LotMachine$Citizen")) (C := RX3) (T := TX3) (N := 7) hx hb hts hin3 tyX3 tyX3_ok nmX3 hown hK hP hD hS 0 rfl rfl 0 (by decide) (hts (.fieldLink RX3 11 "LotMachine$Dawn" "came" "[LLotMachine$Citizen;") (by decide +kernel)) (fun _ h9 => h9) rfl hnm rfl (by decide +kernel) rfl rfl (Nat.le_of_ble_eq_true rfl) dX3_init_11 (fun H locs hP hD hS => ?_)
  have hP : va_P D vwCl [(h, .inr (3, [.ref q1, .null, .null, .null, .int 0, .int 0, .int 0])), (q1, .inl (y 4, 150, .inr (.inr (.inr (.inr (fun _ => none))))))] H := hP
  have hD : va_D A [(h, .inr (3, [.ref q1, .null, .null, .null, .int 0, .int 0, .int 0])), (q1, .inl (y 4, 150, .inr (.inr (.inr (.inr (fun _ => none))))))] := hD
  refine lv_aload_n hx hb dX3_init_14 rfl (lv_at hl 0 rfl) ?_
  refine lv_bipush (v := 50) hx hb dX3_init_15 (by decide) ?_
  refine k_newa (atype := .int) (ty := .int) (a0 := (50, .inl (fun _ => 0))) (N' := 50) hx hb (hts (.arrayClass .int) (by decide +kernel)) rfl hK hP hD hS hA (fun _ => rfl) (by decide) (by decide) (by decide) (Nat.le_of_ble_eq_true rfl) (Nat.le_of_ble_eq_true rfl) dX3_init_17 1 rfl (fun h1 h2 => ra_int h1 h2) (fun q2 H hP hD hS => ?_)
  have hP : va_P D vwCl [(h, .inr (3, [.ref q1, .null, .null, .null, .int 0, .int 0, .int 0])), (q1, .inl (y 4, 150, .inr (.inr (.inr (.inr (fun _ => none)))))), (q2, .inl (y 1, 50, .inl (fun _ => 0)))] H := hP
  have hD : va_D A [(h, .inr (3, [.ref q1, .null, .null, .null, .int 0, .int 0, .int 0])), (q1, .inl (y 4, 150, .inr (.inr (.inr (.inr (fun _ => none)))))), (q2, .inl (y 1, 50, .inl (fun _ => 0)))] := hD
  refine W.widen (k := 2) (n := 200) (by decide) (by decide) ?_
  refine va_putF (D := D) (ci := 3) (v := .ref q2) (ty := .array (.int)) (C := RX3) (T := TX3) (N := 7) hx hb hts hin3 tyX3 tyX3_ok nmX3 hown hK hP hD hS 0 rfl rfl 1 (by decide) (hts (.fieldLink RX3 17 "LotMachine$Dawn" "columns" "[I") (by decide +kernel)) (fun _ h9 => h9) rfl hnm rfl (by decide +kernel) rfl rfl (Nat.le_of_ble_eq_true rfl) dX3_init_19 (fun H locs hP hD hS => ?_)
  have hP : va_P D vwCl [(h, .inr (3, [.ref q1, .ref q2, .null, .null, .int 0, .int 0, .int 0])), (q1, .inl (y 4, 150, .inr (.inr (.inr (.inr (fun _ => none)))))), (q2, .inl (y 1, 50, .inl (fun _ => 0)))] H := hP
  have hD : va_D A [(h, .inr (3, [.ref q1, .ref q2, .null, .null, .int 0, .int 0, .int 0])), (q1, .inl (y 4, 150, .inr (.inr (.inr (.inr (fun _ => none)))))), (q2, .inl (y 1, 50, .inl (fun _ => 0)))] := hD
  refine lv_aload_n hx hb dX3_init_22 rfl (lv_at hl 0 rfl) ?_
  refine lv_bipush (v := 10) hx hb dX3_init_23 (by decide) ?_
  refine k_newa (atype := .boolean) (ty := .boolean) (a0 := (10, .inl (fun _ => 0))) (N' := 10) hx hb (hts (.arrayClass .boolean) (by decide +kernel)) rfl hK hP hD hS hA (fun _ => rfl) (by decide) (by decide) (by decide) (Nat.le_of_ble_eq_true rfl) (Nat.le_of_ble_eq_true rfl) dX3_init_25 2 rfl (fun h1 h2 => ra_boolean h1 h2) (fun q3 H hP hD hS => ?_)
  have hP : va_P D vwCl [(h, .inr (3, [.ref q1, .ref q2, .null, .null, .int 0, .int 0, .int 0])), (q1, .inl (y 4, 150, .inr (.inr (.inr (.inr (fun _ => none)))))), (q2, .inl (y 1, 50, .inl (fun _ => 0))), (q3, .inl (y 2, 10, .inl (fun _ => 0)))] H := hP
  have hD : va_D A [(h, .inr (3, [.ref q1, .ref q2, .null, .null, .int 0, .int 0, .int 0])), (q1, .inl (y 4, 150, .inr (.inr (.inr (.inr (fun _ => none)))))), (q2, .inl (y 1, 50, .inl (fun _ => 0))), (q3, .inl (y 2, 10, .inl (fun _ => 0)))] := hD
  refine W.widen (k := 3) (n := 210) (by decide) (by decide) ?_
  refine va_putF (D := D) (ci := 3) (v := .ref q3) (ty := .array (.boolean)) (C := RX3) (T := TX3) (N := 7) hx hb hts hin3 tyX3 tyX3_ok nmX3 hown hK hP hD hS 0 rfl rfl 2 (by decide) (hts (.fieldLink RX3 21 "LotMachine$Dawn" "drawn" "[Z") (by decide +kernel)) (fun _ h9 => h9) rfl hnm rfl (by decide +kernel) rfl rfl (Nat.le_of_ble_eq_true rfl) dX3_init_27 (fun H locs hP hD hS => ?_)
  have hP : va_P D vwCl [(h, .inr (3, [.ref q1, .ref q2, .ref q3, .null, .int 0, .int 0, .int 0])), (q1, .inl (y 4, 150, .inr (.inr (.inr (.inr (fun _ => none)))))), (q2, .inl (y 1, 50, .inl (fun _ => 0))), (q3, .inl (y 2, 10, .inl (fun _ => 0)))] H := hP
  have hD : va_D A [(h, .inr (3, [.ref q1, .ref q2, .ref q3, .null, .int 0, .int 0, .int 0])), (q1, .inl (y 4, 150, .inr (.inr (.inr (.inr (fun _ => none)))))), (q2, .inl (y 1, 50, .inl (fun _ => 0))), (q3, .inl (y 2, 10, .inl (fun _ => 0)))] := hD
  refine lv_aload_n hx hb dX3_init_30 rfl (lv_at hl 0 rfl) ?_
  refine lv_sipush (v := 150) hx hb dX3_init_31 (by decide) ?_
  refine k_newq (N' := 150) hx hb hown (hts (.classLink RX3 9 RX1) (by decide +kernel)) hE.2.2.1 hK hP hD hS hA (by decide) (by decide) (by decide) (Nat.le_of_ble_eq_true rfl) (Nat.le_of_ble_eq_true rfl) dX3_init_34 4 rfl (fun q4 H hP hD hS => ?_)
  have hP : va_P D vwCl [(h, .inr (3, [.ref q1, .ref q2, .ref q3, .null, .int 0, .int 0, .int 0])), (q1, .inl (y 4, 150, .inr (.inr (.inr (.inr (fun _ => none)))))), (q2, .inl (y 1, 50, .inl (fun _ => 0))), (q3, .inl (y 2, 10, .inl (fun _ => 0))), (q4, .inl (y 4, 150, .inr (.inr (.inr (.inr (fun _ => none))))))] H := hP
  have hD : va_D A [(h, .inr (3, [.ref q1, .ref q2, .ref q3, .null, .int 0, .int 0, .int 0])), (q1, .inl (y 4, 150, .inr (.inr (.inr (.inr (fun _ => none)))))), (q2, .inl (y 1, 50, .inl (fun _ => 0))), (q3, .inl (y 2, 10, .inl (fun _ => 0))), (q4, .inl (y 4, 150, .inr (.inr (.inr (.inr (fun _ => none))))))] := hD
  refine W.widen (k := 4) (n := 360) (by decide) (by decide) ?_
  refine va_putF (D := D) (ci := 3) (v := .ref q4) (ty := .array (.object "LotMachine$Citizen")) (C := RX3) (T := TX3) (N := 7) hx hb hts hin3 tyX3 tyX3_ok nmX3 hown hK hP hD hS 0 rfl rfl 3 (by decide) (hts (.fieldLink RX3 25 "LotMachine$Dawn" "chosen" "[LLotMachine$Citizen;") (by decide +kernel)) (fun _ h9 => h9) rfl hnm rfl (by decide +kernel) rfl rfl (Nat.le_of_ble_eq_true rfl) dX3_init_37 (fun H locs hP hD hS => ?_)
  have hP : va_P D vwCl [(h, .inr (3, [.ref q1, .ref q2, .ref q3, .ref q4, .int 0, .int 0, .int 0])), (q1, .inl (y 4, 150, .inr (.inr (.inr (.inr (fun _ => none)))))), (q2, .inl (y 1, 50, .inl (fun _ => 0))), (q3, .inl (y 2, 10, .inl (fun _ => 0))), (q4, .inl (y 4, 150, .inr (.inr (.inr (.inr (fun _ => none))))))] H := hP
  have hD : va_D A [(h, .inr (3, [.ref q1, .ref q2, .ref q3, .ref q4, .int 0, .int 0, .int 0])), (q1, .inl (y 4, 150, .inr (.inr (.inr (.inr (fun _ => none)))))), (q2, .inl (y 1, 50, .inl (fun _ => 0))), (q3, .inl (y 2, 10, .inl (fun _ => 0))), (q4, .inl (y 4, 150, .inr (.inr (.inr (.inr (fun _ => none))))))] := hD
  exact l_ret hx hb hr hlocks hAe hK hP hD hS dX3_init_40 (⟨q1, q2, q3, q4, rfl⟩)
