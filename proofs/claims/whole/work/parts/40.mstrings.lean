/-! String constants: the JDK's length and charAt of one, by contract -/
/-- a String constant at q: its bytes tx (Latin1), with what its methods read of statics; nothing of it is in A -/
def sE (tx : List Int32) (q qv : Nat) (A : Nat → Prop) (U : State) (H : Heap) : Prop := va_O "java/lang/String" q A U H ∧ va_OF "java/lang/String" "coder" "B" (.int 0) q A U H ∧ va_OF "java/lang/String" "value" "[B" (.ref qv) q A U H ∧ va_T .byte qv tx.length (fun j => .int (tx.getD j 0)) A U H ∧ va_Z "java/lang/String" "COMPACT_STRINGS" "Z" (.int 1) A U H ∧ va_Zq "jdk/internal/util/Preconditions" "SIOOBE_FORMATTER" "Ljava/util/function/BiFunction;" A U H
theorem sE.moved {tx : List Int32} {q qv : Nat} {A : Nat → Prop} {u U : State} {H : Heap} (hvm : u.vm.Alike U.vm) (h : sE tx q qv A u H) : sE tx q qv A U H := ⟨h.1.moved hvm, h.2.1.moved hvm, h.2.2.1.moved hvm, h.2.2.2.1.moved hvm, h.2.2.2.2.1.moved hvm, h.2.2.2.2.2.moved hvm⟩
theorem sE.kept {tx : List Int32} {q qv : Nat} {A : Nat → Prop} {U : State} {H H1 : Heap} (h : sE tx q qv A U H) (hq : ∀ a : Nat, a < H.size → ¬ A a → H1[a]? = H[a]?) : sE tx q qv A U H1 := ⟨h.1.kept hq, h.2.1.kept hq, h.2.2.1.kept hq, h.2.2.2.1.kept hq, h.2.2.2.2.1.kept hq, h.2.2.2.2.2.kept hq⟩
theorem sE.narrow {tx : List Int32} {q qv : Nat} {A B : Nat → Prop} {U : State} {H : Heap} (h : sE tx q qv A U H) (hAB : ∀ a, B a → A a) : sE tx q qv B U H := ⟨h.1.narrow hAB, h.2.1.narrow hAB, h.2.2.1.narrow hAB, h.2.2.2.1.narrow hAB, h.2.2.2.2.1.narrow hAB, h.2.2.2.2.2.narrow hAB⟩
/-- a method over a String constant: its answer is r, nothing changes -/
def tMi (l : Launch) (ym : MethodName) (ws : List Cond) (rm : Room) (as : List Value) (tx : List Int32) (q qv : Nat) (r : Int32) : Prop := Met l ym ws rm (va_Pc as (fun U => sE tx q qv (fun _ => False) U U.heap)) (va_Qi (fun r' (_ : Unit) => r' = r) (fun _ _ => True) (fun _ => False)) 0 0 (fun _ => False)
def tMv (l : Launch) (ym : MethodName) (ws : List Cond) (rm : Room) (as : List Value) (tx : List Int32) (q qv : Nat) : Prop := Met l ym ws rm (va_Pc as (fun U => sE tx q qv (fun _ => False) U U.heap)) (va_Qv (fun (_ : Unit) => True) (fun _ _ => True) (fun _ => False)) 0 0 (fun _ => False)
theorem tMi_of {l : Launch} {ym : MethodName} {ws ws' : List Cond} {rm : Room} {as : List Value} {tx : List Int32} {q qv : Nat} {r : Int32} {cc : ByteArray} {maxL : Nat} {ret : Option FieldType} (hy : plainName ym.cls = true) (hw : ws = Cond.code ym cc maxL ret :: ws') (hf : (lg_sl as).length ≤ maxL)
    (body : ∀ (p : Program) (e : Env) (s : State) (m : MethodId) (below : List Frame) (meth : Method) (c : Code) (ls : Array Slot), sAt p s m meth c as.toArray cc maxL ret ws ym.cls → sE tx q qv (fun _ => False) s s.heap → lv_has ls maxL (lv_args 0 as) → W p l e (headSpec ws rm).room s m as.toArray below meth c s.heap [] 0 0 (MQ below (va_Qi (fun r' (_ : Unit) => r' = r) (fun _ _ => True) (fun _ => False)) as.toArray s 0 0 (fun _ => False)) (F0 m 0 ls [])) : tMi l ym ws rm as tx q qv r := by
  refine Met.ofW (cc := cc) (maxL := maxL) (ret := ret) hy hw ?_
  intro p e s m args below meth c s₁ B hml hv
  obtain ⟨rfl, hE⟩ := hv
  have hown : s.vm.findClass ym.cls = some m.cls := findClass_of_methodNamed B.named
  rw [lg_entry_eq]
  exact body p e s m below meth c _ ⟨B.exec, B.bytes, B.returns, hml, atoms_spec (ws := ws) B.pre, hown, B.notSynchronized⟩ hE (lv_entry as hf)
theorem tMv_of {l : Launch} {ym : MethodName} {ws ws' : List Cond} {rm : Room} {as : List Value} {tx : List Int32} {q qv : Nat} {cc : ByteArray} {maxL : Nat} {ret : Option FieldType} (hy : plainName ym.cls = true) (hw : ws = Cond.code ym cc maxL ret :: ws') (hf : (lg_sl as).length ≤ maxL)
    (body : ∀ (p : Program) (e : Env) (s : State) (m : MethodId) (below : List Frame) (meth : Method) (c : Code) (ls : Array Slot), sAt p s m meth c as.toArray cc maxL ret ws ym.cls → sE tx q qv (fun _ => False) s s.heap → lv_has ls maxL (lv_args 0 as) → W p l e (headSpec ws rm).room s m as.toArray below meth c s.heap [] 0 0 (MQ below (va_Qv (fun (_ : Unit) => True) (fun _ _ => True) (fun _ => False)) as.toArray s 0 0 (fun _ => False)) (F0 m 0 ls [])) : tMv l ym ws rm as tx q qv := by
  refine Met.ofW (cc := cc) (maxL := maxL) (ret := ret) hy hw ?_
  intro p e s m args below meth c s₁ B hml hv
  obtain ⟨rfl, hE⟩ := hv
  have hown : s.vm.findClass ym.cls = some m.cls := findClass_of_methodNamed B.named
  rw [lg_entry_eq]
  exact body p e s m below meth c _ ⟨B.exec, B.bytes, B.returns, hml, atoms_spec (ws := ws) B.pre, hown, B.notSynchronized⟩ hE (lv_entry as hf)
section TC
variable {p : Program} {l : Launch} {e : Env} {R : Room} {s : State} {m : MethodId} {args : Array Value} {below : List Frame} {meth : Method} {c : Code} {H : Heap} {locs : List Loc} {cells slots : Nat} {Q : State → Prop}
variable {cc : ByteArray} {pc : Nat} {ls : Array Slot} {rest st : List Value} {D : va_G} {A : Nat → Prop} {cl : List vw_C} {wd : va_W} {Ts ws : List Cond} {own : String} {tx : List Int32} {q qv : Nat}
variable {ym : MethodName} {bytes : ByteArray} {maxL nL n index : Nat} {ret : Option FieldType} {rm : Room} {As : List Value}
theorem sE.at {U : State} (hE : sE tx q qv A s s.heap) (hS : va_S A s.heap H locs) (hU : U.heap = H) (hvm : s.vm.Alike U.vm) : sE tx q qv (fun _ => False) U U.heap := by
  rw [hU]
  exact ((hE.kept hS.2.1).narrow (fun _ h => h.elim)).moved hvm
theorem t_calliV {r : Int32} (S : CallFix p m c cc nL s args Ts own) (hM : tMi l ym ws rm (.ref q :: As) tx q qv r) (cw : CallW R s args own "java/lang/String" index ym bytes maxL ret ws rm 0 0 n) (hE : sE tx q qv A s s.heap) (hP : va_P D cl wd H) (hS : va_S A s.heap H locs) (hn : As.length = n) (hsz : ls.size = nL) (hst : st = As.reverse ++ .ref q :: rest) (hW : (rest.map fun v => v.category).sum ≤ 8) (hdg : decode cc pc = .ok (.invokevirtual index, 3)) (hf : cells ≤ R.cells ∧ slots ≤ R.slots)
    (kk : ∀ (H1 : Heap) (locs1 : List Loc), va_P D cl wd H1 → va_S A s.heap H1 locs1 → W p l e R s m args below meth c H1 locs1 cells slots Q (F0 m (pc + 3) ls (.int r :: rest))) : W p l e R s m args below meth c H locs cells slots Q (F0 m pc ls st) := by
  have hrc : ∃ cell : Cell, H[q]? = some cell ∧ cell.vm.isStatics = false ∧ s.vm.findClass "java/lang/String" = some cell.cls := by
    obtain ⟨cell, h1, h2, h3, -⟩ := hE.1.kept hS.2.1
    exact ⟨cell, h1, h2, h3⟩
  refine va_calli (va_runV (As := As) (rest := rest) S hM cw ⟨fun a U g mk qq => ⟨qq.1, sE.moved (u := U) (U := U.calling g mk a) (Vm.Alike.refl U.vm) qq.2⟩, hrc, fun U hU hW => ⟨rfl, hE.at hS hU hW.alike⟩⟩ rfl hn hsz hst (lv_room hW) hdg hf) hS (fun q _ h => h.elim) (fun q h => h.elim) (fun r' u t H1 locs1 ht hvm hw hB hz hk hS1 => ?_)
  subst hw
  exact kk H1 locs1 (hP.kept (fun k x hx => hk x.1 (hP k x hx).lt id)) hS1
theorem t_calliS {r : Int32} (S : CallFix p m c cc nL s args Ts own) (hM : tMi l ym ws rm As tx q qv r) (cw : CallB R s args own index ym bytes maxL ret ws rm 0 0 n ∧ (Cond.static ym).before args s = true) (hE : sE tx q qv A s s.heap) (hP : va_P D cl wd H) (hS : va_S A s.heap H locs) (hn : As.length = n) (hsz : ls.size = nL) (hst : st = As.reverse ++ rest) (hW : (rest.map fun v => v.category).sum ≤ 8) (hdg : decode cc pc = .ok (.invokestatic index, 3)) (hf : cells ≤ R.cells ∧ slots ≤ R.slots)
    (kk : ∀ (H1 : Heap) (locs1 : List Loc), va_P D cl wd H1 → va_S A s.heap H1 locs1 → W p l e R s m args below meth c H1 locs1 cells slots Q (F0 m (pc + 3) ls (.int r :: rest))) : W p l e R s m args below meth c H locs cells slots Q (F0 m pc ls st) := by
  refine va_calli (va_runS (As := As) (rest := rest) S hM cw ⟨fun a U g mk qq => ⟨qq.1, sE.moved (u := U) (U := U.calling g mk a) (Vm.Alike.refl U.vm) qq.2⟩, fun U hU hW => ⟨rfl, hE.at hS hU hW.alike⟩⟩ rfl hn hsz hst (lv_room hW) hdg hf) hS (fun q _ h => h.elim) (fun q h => h.elim) (fun r' u t H1 locs1 ht hvm hw hB hz hk hS1 => ?_)
  subst hw
  exact kk H1 locs1 (hP.kept (fun k x hx => hk x.1 (hP k x hx).lt id)) hS1
theorem t_callvS (S : CallFix p m c cc nL s args Ts own) (hM : tMv l ym ws rm As tx q qv) (cw : CallB R s args own index ym bytes maxL ret ws rm 0 0 n ∧ (Cond.static ym).before args s = true) (hE : sE tx q qv A s s.heap) (hP : va_P D cl wd H) (hS : va_S A s.heap H locs) (hn : As.length = n) (hsz : ls.size = nL) (hst : st = As.reverse ++ rest) (hW : (rest.map fun v => v.category).sum ≤ 8) (hdg : decode cc pc = .ok (.invokestatic index, 3)) (hf : cells ≤ R.cells ∧ slots ≤ R.slots)
    (kk : ∀ (H1 : Heap) (locs1 : List Loc), va_P D cl wd H1 → va_S A s.heap H1 locs1 → W p l e R s m args below meth c H1 locs1 cells slots Q (F0 m (pc + 3) ls rest)) : W p l e R s m args below meth c H locs cells slots Q (F0 m pc ls st) := by
  refine va_callv (va_runS (As := As) (rest := rest) S hM cw ⟨fun a U g mk qq => ⟨qq.1, sE.moved (u := U) (U := U.calling g mk a) (Vm.Alike.refl U.vm) qq.2⟩, fun U hU hW => ⟨rfl, hE.at hS hU hW.alike⟩⟩ rfl hn hsz hst (lv_room hW) hdg hf) hS (fun q _ h => h.elim) (fun q h => h.elim) (fun u t H1 locs1 ht hvm hw hB hz hk hS1 => ?_)
  exact kk H1 locs1 (hP.kept (fun k x hx => hk x.1 (hP k x hx).lt id)) hS1
end TC
theorem sh0 {n : Nat} (h : n < 2 ^ 31) : nI n >>> (0 : Int32) = nI n := by rw [pk_shrN h 0 0 rfl]; simp
set_option maxHeartbeats 4000000 in
set_option maxRecDepth 100000 in
theorem ctJ0_coder_7d493 (l : Launch) (tx : List Int32) (q qv : Nat) : tMi l yJ0_coder_7d493 wsJ0_coder_7d493 ({ frames := 0, cells := 0, slots := 0, locals := 0 }) [.ref q] tx q qv (0) := by
  refine tMi_of (cc := cJ0_coder_7d493) (maxL := 1) (ret := (some .byte)) (by decide) rfl (Nat.le_of_ble_eq_true rfl) ?_
  intro p e s m below meth c ls hat hE hl
  obtain ⟨hx, hb, hr, hml, hts, hown, hlocks⟩ := hat
  have hl : lv_has ls 1 [(0, .ref q)] := hl
  have hS : va_S (fun _ => False) s.heap s.heap [] := va_S.rf
  have hP : va_P (D := (fun _ => m.cls, fun _ _ => 0)) (cl := vwCl) [] s.heap := fun k q h => by simp at h
  refine va_gets hx hb hE.2.2.2.2.1 hS hown (hts (.fieldLink RJ0 38 "java/lang/String" "COMPACT_STRINGS" "Z") (by decide +kernel)) (fun _ h9 => h9) dJ0_coder_7d493_0 ?_
  refine lv_if_eq (tgt := 13) hx hb dJ0_coder_7d493_3 (by decide) (fun c_3 => ?_) (fun c_3 => ?_)
  · exact absurd c_3 (by decide)
  · refine lv_aload_n hx hb dJ0_coder_7d493_6 rfl (lv_at hl 0 rfl) ?_
    refine vk_getf hx hb hE.2.1 hS hown (hts (.fieldLink RJ0 15 "java/lang/String" "coder" "B") (by decide +kernel)) (fun _ h9 => h9) dJ0_coder_7d493_7 ?_
    refine lv_goto (tgt := 14) hx hb dJ0_coder_7d493_10 (by decide) ?_
    exact s_reti hx hb hr hlocks rfl hS dJ0_coder_7d493_14 (rfl)
set_option maxHeartbeats 4000000 in
set_option maxRecDepth 100000 in
theorem ctJ0_isLatin1_aae02 (l : Launch) (tx : List Int32) (q qv : Nat) : tMi l yJ0_isLatin1_aae02 wsJ0_isLatin1_aae02 ({ frames := 0, cells := 0, slots := 0, locals := 0 }) [.ref q] tx q qv (1) := by
  refine tMi_of (cc := cJ0_isLatin1_aae02) (maxL := 1) (ret := (some .boolean)) (by decide) rfl (Nat.le_of_ble_eq_true rfl) ?_
  intro p e s m below meth c ls hat hE hl
  obtain ⟨hx, hb, hr, hml, hts, hown, hlocks⟩ := hat
  have hl : lv_has ls 1 [(0, .ref q)] := hl
  have hS : va_S (fun _ => False) s.heap s.heap [] := va_S.rf
  have hP : va_P (D := (fun _ => m.cls, fun _ _ => 0)) (cl := vwCl) [] s.heap := fun k q h => by simp at h
  refine va_gets hx hb hE.2.2.2.2.1 hS hown (hts (.fieldLink RJ0 38 "java/lang/String" "COMPACT_STRINGS" "Z") (by decide +kernel)) (fun _ h9 => h9) dJ0_isLatin1_aae02_0 ?_
  refine lv_if_eq (tgt := 17) hx hb dJ0_isLatin1_aae02_3 (by decide) (fun c_3 => ?_) (fun c_3 => ?_)
  · exact absurd c_3 (by decide)
  · refine lv_aload_n hx hb dJ0_isLatin1_aae02_6 rfl (lv_at hl 0 rfl) ?_
    refine vk_getf hx hb hE.2.1 hS hown (hts (.fieldLink RJ0 15 "java/lang/String" "coder" "B") (by decide +kernel)) (fun _ h9 => h9) dJ0_isLatin1_aae02_7 ?_
    refine lv_if_ne (tgt := 17) hx hb dJ0_isLatin1_aae02_10 (by decide) (fun c_10 => ?_) (fun c_10 => ?_)
    · exact absurd rfl c_10
    · refine lv_iconst (v := 1) hx hb dJ0_isLatin1_aae02_13 (by decide) ?_
      refine lv_goto (tgt := 18) hx hb dJ0_isLatin1_aae02_14 (by decide) ?_
      exact s_reti hx hb hr hlocks (by first | rfl | decide) hS dJ0_isLatin1_aae02_18 (rfl)
set_option maxHeartbeats 4000000 in
set_option maxRecDepth 100000 in
theorem ctJ0_length_8abf5 (l : Launch) (tx : List Int32) (q qv : Nat) (htx : tx.length < 2 ^ 31) : tMi l yJ0_length_8abf5 wsJ0_length_8abf5 ({ frames := 1, cells := 0, slots := 0, locals := 20 }) [.ref q] tx q qv (nI tx.length) := by
  refine tMi_of (cc := cJ0_length_8abf5) (maxL := 1) (ret := (some .int)) (by decide) rfl (Nat.le_of_ble_eq_true rfl) ?_
  intro p e s m below meth c ls hat hE hl
  obtain ⟨hx, hb, hr, hml, hts, hown, hlocks⟩ := hat
  have hl : lv_has ls 1 [(0, .ref q)] := hl
  have hS : va_S (fun _ => False) s.heap s.heap [] := va_S.rf
  have hP : va_P (D := (fun _ => m.cls, fun _ _ => 0)) (cl := vwCl) [] s.heap := fun k q h => by simp at h
  refine lv_aload_n hx hb dJ0_length_8abf5_0 rfl (lv_at hl 0 rfl) ?_
  refine vk_getf hx hb hE.2.2.1 hS hown (hts (.fieldLink RJ0 9 "java/lang/String" "value" "[B") (by decide +kernel)) (fun _ h9 => h9) dJ0_length_8abf5_1 ?_
  refine va_tlen hx hb hE.2.2.2.1 hS rfl dJ0_length_8abf5_4 ?_
  refine lv_aload_n hx hb dJ0_length_8abf5_5 rfl (lv_at hl 0 rfl) ?_
  refine t_calliV (As := []) (rest := [.int (nI tx.length)]) ⟨hx, hb, hml, hown, hts⟩ (ctJ0_coder_7d493 l tx q qv) (cwV 0 hts gJ0_length_8abf5_J0_coder_7d493 rfl rfl rfl (by decide +kernel) ⟨Nat.le_of_ble_eq_true rfl, Nat.le_of_ble_eq_true rfl⟩) hE hP hS rfl hl.1 rfl (Nat.le_of_ble_eq_true rfl) dJ0_length_8abf5_6 ⟨Nat.zero_le _, Nat.zero_le _⟩ (fun H locs hP hS => ?_)
  refine lv_ishr hx hb dJ0_length_8abf5_9 ?_
  exact s_reti hx hb hr hlocks rfl hS dJ0_length_8abf5_10 (by rw [show ((0 : Int32) &&& 31) = 0 from rfl]; exact sh0 htx)
set_option maxHeartbeats 4000000 in
set_option maxRecDepth 100000 in
theorem ctJ3_n (l : Launch) (i9 n9 : Nat) (hi : i9 < n9) (hn : n9 < 2 ^ 31) : sMi l yJ3_checkIndex_8e157 wsJ3_checkIndex_8e157 ({ frames := 0, cells := 0, slots := 0, locals := 0 }) [.int (nI i9), .int (nI n9), .null] (nI i9) := by
  refine sMi_of (cc := cJ3_checkIndex_8e157) (maxL := 3) (ret := (some .int)) (by decide) rfl (Nat.le_of_ble_eq_true rfl) ?_
  intro p e s m below meth c ls hat hl
  obtain ⟨hx, hb, hr, hml, hts, hown, hlocks⟩ := hat
  have hl : lv_has ls 3 [(0, .int (nI i9)), (1, .int (nI n9)), (2, .null)] := hl
  have hS : va_S (fun _ => False) s.heap s.heap [] := va_S.rf
  refine lv_iload_n hx hb dJ3_checkIndex_8e157_0 rfl (lv_at hl 0 rfl) ?_
  refine lv_if_lt (tgt := 9) hx hb dJ3_checkIndex_8e157_1 (by decide) (fun c_1 => ?_) (fun c_1 => ?_)
  · exact absurd c_1 (nI_pos (by omega))
  · refine lv_iload_n hx hb dJ3_checkIndex_8e157_4 rfl (lv_at hl 0 rfl) ?_
    refine lv_iload_n hx hb dJ3_checkIndex_8e157_5 rfl (lv_at hl 1 rfl) ?_
    refine lv_icmp_lt (tgt := 16) hx hb dJ3_checkIndex_8e157_6 (by decide) (fun c_6 => ?_) (fun c_6 => ?_)
    · refine lv_iload_n hx hb dJ3_checkIndex_8e157_16 rfl (lv_at hl 0 rfl) ?_
      exact s_reti hx hb hr hlocks rfl hS dJ3_checkIndex_8e157_17 (rfl)
    · exact absurd (nI_lt hi hn) c_6
set_option maxHeartbeats 4000000 in
set_option maxRecDepth 100000 in
theorem ctJ3_r (l : Launch) (i9 n9 : Nat) (t9 : Nat) (hi : i9 < n9) (hn : n9 < 2 ^ 31) : sMi l yJ3_checkIndex_8e157 wsJ3_checkIndex_8e157 ({ frames := 0, cells := 0, slots := 0, locals := 0 }) [.int (nI i9), .int (nI n9), .ref t9] (nI i9) := by
  refine sMi_of (cc := cJ3_checkIndex_8e157) (maxL := 3) (ret := (some .int)) (by decide) rfl (Nat.le_of_ble_eq_true rfl) ?_
  intro p e s m below meth c ls hat hl
  obtain ⟨hx, hb, hr, hml, hts, hown, hlocks⟩ := hat
  have hl : lv_has ls 3 [(0, .int (nI i9)), (1, .int (nI n9)), (2, .ref t9)] := hl
  have hS : va_S (fun _ => False) s.heap s.heap [] := va_S.rf
  refine lv_iload_n hx hb dJ3_checkIndex_8e157_0 rfl (lv_at hl 0 rfl) ?_
  refine lv_if_lt (tgt := 9) hx hb dJ3_checkIndex_8e157_1 (by decide) (fun c_1 => ?_) (fun c_1 => ?_)
  · exact absurd c_1 (nI_pos (by omega))
  · refine lv_iload_n hx hb dJ3_checkIndex_8e157_4 rfl (lv_at hl 0 rfl) ?_
    refine lv_iload_n hx hb dJ3_checkIndex_8e157_5 rfl (lv_at hl 1 rfl) ?_
    refine lv_icmp_lt (tgt := 16) hx hb dJ3_checkIndex_8e157_6 (by decide) (fun c_6 => ?_) (fun c_6 => ?_)
    · refine lv_iload_n hx hb dJ3_checkIndex_8e157_16 rfl (lv_at hl 0 rfl) ?_
      exact s_reti hx hb hr hlocks rfl hS dJ3_checkIndex_8e157_17 (rfl)
    · exact absurd (nI_lt hi hn) c_6
set_option maxHeartbeats 4000000 in
set_option maxRecDepth 100000 in
theorem ctJ0_checkIndex_df160 (l : Launch) (tx : List Int32) (q qv : Nat) (i9 n9 : Nat) (hi : i9 < n9) (hn : n9 < 2 ^ 31) : tMv l yJ0_checkIndex_df160 wsJ0_checkIndex_df160 ({ frames := 1, cells := 0, slots := 0, locals := 22 }) [.int (nI i9), .int (nI n9)] tx q qv := by
  refine tMv_of (cc := cJ0_checkIndex_df160) (maxL := 2) (ret := none) (by decide) rfl (Nat.le_of_ble_eq_true rfl) ?_
  intro p e s m below meth c ls hat hE hl
  obtain ⟨hx, hb, hr, hml, hts, hown, hlocks⟩ := hat
  have hl : lv_has ls 2 [(0, .int (nI i9)), (1, .int (nI n9))] := hl
  have hS : va_S (fun _ => False) s.heap s.heap [] := va_S.rf
  have hP : va_P (D := (fun _ => m.cls, fun _ _ => 0)) (cl := vwCl) [] s.heap := fun k q h => by simp at h
  refine lv_iload_n hx hb dJ0_checkIndex_df160_0 rfl (lv_at hl 0 rfl) ?_
  refine lv_iload_n hx hb dJ0_checkIndex_df160_1 rfl (lv_at hl 1 rfl) ?_
  rcases hE.2.2.2.2.2 with hZ | ⟨t9, hZ⟩
  · refine va_gets hx hb hZ hS hown (hts (.fieldLink RJ0 1053 "jdk/internal/util/Preconditions" "SIOOBE_FORMATTER" "Ljava/util/function/BiFunction;") (by decide +kernel)) (fun _ h9 => h9) dJ0_checkIndex_df160_2 ?_
    refine s_calli (As := [.int (nI i9), .int (nI n9), .null]) (rest := []) ⟨hx, hb, hml, hown, hts⟩ (ctJ3_n l i9 n9 hi hn) (va_cwS 3 hts gJ0_checkIndex_df160_J3_checkIndex_8e157 rfl rfl rfl (by decide +kernel) ⟨Nat.le_of_ble_eq_true rfl, Nat.le_of_ble_eq_true rfl⟩) hP hS rfl hl.1 rfl (Nat.le_of_ble_eq_true rfl) dJ0_checkIndex_df160_5 ⟨Nat.zero_le _, Nat.zero_le _⟩ (fun H locs hP hS => ?_)
    refine lv_pop hx hb dJ0_checkIndex_df160_8 rfl ?_
    exact W.vret hx hb hr (fun t ht hW => ⟨⟨(), rfl, trivial, trivial⟩, hS.F ht⟩) hS.2.2 dJ0_checkIndex_df160_9
  · refine va_gets hx hb hZ hS hown (hts (.fieldLink RJ0 1053 "jdk/internal/util/Preconditions" "SIOOBE_FORMATTER" "Ljava/util/function/BiFunction;") (by decide +kernel)) (fun _ h9 => h9) dJ0_checkIndex_df160_2 ?_
    refine s_calli (As := [.int (nI i9), .int (nI n9), .ref t9]) (rest := []) ⟨hx, hb, hml, hown, hts⟩ (ctJ3_r l i9 n9 t9 hi hn) (va_cwS 3 hts gJ0_checkIndex_df160_J3_checkIndex_8e157 rfl rfl rfl (by decide +kernel) ⟨Nat.le_of_ble_eq_true rfl, Nat.le_of_ble_eq_true rfl⟩) hP hS rfl hl.1 rfl (Nat.le_of_ble_eq_true rfl) dJ0_checkIndex_df160_5 ⟨Nat.zero_le _, Nat.zero_le _⟩ (fun H locs hP hS => ?_)
    refine lv_pop hx hb dJ0_checkIndex_df160_8 rfl ?_
    exact W.vret hx hb hr (fun t ht hW => ⟨⟨(), rfl, trivial, trivial⟩, hS.F ht⟩) hS.2.2 dJ0_checkIndex_df160_9
def chr (tx : List Int32) (i : Nat) : Int32 := ((tx.getD i 0 &&& 255).toUInt32 % 65536).toInt32
set_option maxHeartbeats 4000000 in
set_option maxRecDepth 100000 in
theorem ctJ1_charAt_3b067 (l : Launch) (tx : List Int32) (q qv : Nat) (i9 : Nat) (hi : i9 < tx.length) (hn : tx.length < 2 ^ 31) : tMi l yJ1_charAt_3b067 wsJ1_charAt_3b067 ({ frames := 2, cells := 0, slots := 0, locals := 43 }) [.ref qv, .int (nI i9)] tx q qv (chr tx i9) := by
  refine tMi_of (cc := cJ1_charAt_3b067) (maxL := 2) (ret := (some .char)) (by decide) rfl (Nat.le_of_ble_eq_true rfl) ?_
  intro p e s m below meth c ls hat hE hl
  obtain ⟨hx, hb, hr, hml, hts, hown, hlocks⟩ := hat
  have hl : lv_has ls 2 [(0, .ref qv), (1, .int (nI i9))] := hl
  have hS : va_S (fun _ => False) s.heap s.heap [] := va_S.rf
  have hP : va_P (D := (fun _ => m.cls, fun _ _ => 0)) (cl := vwCl) [] s.heap := fun k q h => by simp at h
  have hc9 : (nI i9).toNatClampNeg = i9 := nI_clamp (by omega)
  refine lv_iload_n hx hb dJ1_charAt_3b067_0 rfl (lv_at hl 1 rfl) ?_
  refine lv_aload_n hx hb dJ1_charAt_3b067_1 rfl (lv_at hl 0 rfl) ?_
  refine va_tlen hx hb hE.2.2.2.1 hS rfl dJ1_charAt_3b067_2 ?_
  refine t_callvS (As := [.int (nI i9), .int (nI tx.length)]) (rest := []) ⟨hx, hb, hml, hown, hts⟩ (ctJ0_checkIndex_df160 l tx q qv i9 tx.length hi hn) (va_cwS 2 hts gJ1_charAt_3b067_J0_checkIndex_df160 rfl rfl rfl (by decide +kernel) ⟨Nat.le_of_ble_eq_true rfl, Nat.le_of_ble_eq_true rfl⟩) hE hP hS rfl hl.1 rfl (Nat.le_of_ble_eq_true rfl) dJ1_charAt_3b067_3 ⟨Nat.zero_le _, Nat.zero_le _⟩ (fun H locs hP hS => ?_)
  refine lv_aload_n hx hb dJ1_charAt_3b067_6 rfl (lv_at hl 0 rfl) ?_
  refine lv_iload_n hx hb dJ1_charAt_3b067_7 rfl (lv_at hl 1 rfl) ?_
  refine va_tb (v := .int (tx.getD i9 0)) hx hb hE.2.2.2.1 hS (vp_in_nI hi hn) (by rw [hc9]) dJ1_charAt_3b067_8 ?_
  refine lv_sipush (v := 255) hx hb dJ1_charAt_3b067_9 (by decide) ?_
  refine lv_iand hx hb dJ1_charAt_3b067_12 ?_
  refine lv_i2c hx hb dJ1_charAt_3b067_13 rfl ?_
  exact s_reti hx hb hr hlocks (pk_nc _) hS dJ1_charAt_3b067_14 (rfl)
set_option maxHeartbeats 4000000 in
set_option maxRecDepth 100000 in
theorem ctJ0_charAt_5068e (l : Launch) (tx : List Int32) (q qv : Nat) (i9 : Nat) (hi : i9 < tx.length) (hn : tx.length < 2 ^ 31) : tMi l yJ0_charAt_5068e wsJ0_charAt_5068e ({ frames := 4, cells := 0, slots := 0, locals := 85 }) [.ref q, .int (nI i9)] tx q qv (chr tx i9) := by
  refine tMi_of (cc := cJ0_charAt_5068e) (maxL := 2) (ret := (some .char)) (by decide) rfl (Nat.le_of_ble_eq_true rfl) ?_
  intro p e s m below meth c ls hat hE hl
  obtain ⟨hx, hb, hr, hml, hts, hown, hlocks⟩ := hat
  have hl : lv_has ls 2 [(0, .ref q), (1, .int (nI i9))] := hl
  have hS : va_S (fun _ => False) s.heap s.heap [] := va_S.rf
  have hP : va_P (D := (fun _ => m.cls, fun _ _ => 0)) (cl := vwCl) [] s.heap := fun k q h => by simp at h
  refine lv_aload_n hx hb dJ0_charAt_5068e_0 rfl (lv_at hl 0 rfl) ?_
  refine t_calliV (As := []) (rest := []) ⟨hx, hb, hml, hown, hts⟩ (ctJ0_isLatin1_aae02 l tx q qv) (cwV 0 hts gJ0_charAt_5068e_J0_isLatin1_aae02 rfl rfl rfl (by decide +kernel) ⟨Nat.le_of_ble_eq_true rfl, Nat.le_of_ble_eq_true rfl⟩) hE hP hS rfl hl.1 rfl (Nat.le_of_ble_eq_true rfl) dJ0_charAt_5068e_1 ⟨Nat.zero_le _, Nat.zero_le _⟩ (fun H locs hP hS => ?_)
  refine lv_if_eq (tgt := 16) hx hb dJ0_charAt_5068e_4 (by decide) (fun c_4 => ?_) (fun c_4 => ?_)
  · exact absurd c_4 (by decide)
  · refine lv_aload_n hx hb dJ0_charAt_5068e_7 rfl (lv_at hl 0 rfl) ?_
    refine vk_getf hx hb hE.2.2.1 hS hown (hts (.fieldLink RJ0 9 "java/lang/String" "value" "[B") (by decide +kernel)) (fun _ h9 => h9) dJ0_charAt_5068e_8 ?_
    refine lv_iload_n hx hb dJ0_charAt_5068e_11 rfl (lv_at hl 1 rfl) ?_
    refine t_calliS (As := [.ref qv, .int (nI i9)]) (rest := []) ⟨hx, hb, hml, hown, hts⟩ (ctJ1_charAt_3b067 l tx q qv i9 hi hn) (va_cwS 2 hts gJ0_charAt_5068e_J1_charAt_3b067 rfl rfl rfl (by decide +kernel) ⟨Nat.le_of_ble_eq_true rfl, Nat.le_of_ble_eq_true rfl⟩) hE hP hS rfl hl.1 rfl (Nat.le_of_ble_eq_true rfl) dJ0_charAt_5068e_12 ⟨Nat.zero_le _, Nat.zero_le _⟩ (fun H locs hP hS => ?_)
    exact s_reti hx hb hr hlocks (pk_nc _) hS dJ0_charAt_5068e_15 (rfl)
