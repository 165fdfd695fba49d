/-! the landed program: a text of laws is kept -/
section AV
variable {p : Program} {l : Launch} {e : Env} {Rm : Room} {s : State} {m : MethodId} {args : Array Value} {below : List Frame} {meth : Method} {c : Code} {H : Heap} {locs : List Loc} {cells slots mc ms : Nat} {Q : State → Prop}
variable {cc : ByteArray} {pc : Nat} {ls : Array Slot} {rest st : List Value} {D : va_G} {A : Nat → Prop} {y : Nat → ClassId} {ad : Nat → Nat → Nat} {x : cS} {R : List (Nat × Nat)} {qs : Nat → Nat × Nat} {Ts ws : List Cond} {own : String} {index κ i n ci : Nat} {q : vw_C}
variable {ym : MethodName} {bytes : ByteArray} {maxL nL : Nat} {ret : Option FieldType} {rm : Room} {As : List Value}
theorem a_calli {post : Int32 → cS × (Nat → Nat → Nat) × List (Nat × Nat) → Prop} (S : CallFix p m c cc nL s args Ts own) (hM : aMi l ym ws rm mc ms D y ad x R qs (.ref (ad κ i) :: As) post) (cw : CallW Rm s args own q.1 index ym bytes maxL ret ws rm mc ms n) (hm : (κ, i) ∈ R) (he : ∀ f g o, ∃ fs, cE ad y κ i f g o = .inr (ci, fs)) (hc : vwCl[ci]? = some q) (hE : cEnv qs A s s.heap) (hN : cNN s) (hK : va_K D vwCl (cT y) s) (hP : va_P D vwCl (cW ad y x R) H) (hD : va_D A (cW ad y x R)) (hS : va_S A s.heap H locs) (hA : ∀ q, s.heap.size ≤ q → A q) (hn : As.length = n) (hsz : ls.size = nL) (hst : st = As.reverse ++ .ref (ad κ i) :: rest) (hW : (rest.map fun v => v.category).sum ≤ 8) (hdg : decode cc pc = .ok (.invokevirtual index, 3)) (hf : cells + mc ≤ Rm.cells ∧ slots + ms ≤ Rm.slots)
    (kk : ∀ (r : Int32) (x' : cS) (ad' : Nat → Nat → Nat) (R' : List (Nat × Nat)) (H1 : Heap) (locs1 : List Loc), post r (x', ad', R') → va_P D vwCl (cW ad' y x' R') H1 → va_D A (cW ad' y x' R') → va_S A s.heap H1 locs1 → W p l e Rm s m args below meth c H1 locs1 (cells + mc) (slots + ms) Q (F0 m (pc + 3) ls (.int r :: rest))) : W p l e Rm s m args below meth c H locs cells slots Q (F0 m pc ls st) := by
  have hp := c_preV (As := As) hE hK hP hD hS hA hm he hc
  refine va_calli (va_runV (As := As) (rest := rest) S (hM H.size) cw ⟨fun a U g mk qq => ⟨hp.1 a U g mk qq.1, qq.2.call⟩, hp.2.1, fun U hU hW => ⟨hp.2.2 U hU hW, hN.warm hW⟩⟩ rfl hn hsz hst (lv_room hW) hdg hf) hS (fun q _ hq => cA_sub hD hS hA q hq) (cA_sub hD hS hA) (fun r u t H1 locs1 ht hvm hw hB hz hk hS1 => ?_)
  obtain ⟨x', ad', R'⟩ := u
  obtain ⟨hP1, hK1, hD1⟩ := hB
  rw [ht] at hP1
  exact kk r x' ad' R' H1 locs1 hw hP1 (hD1.weaken (fun k q _ hq => cA_sub hD hS hA q.1 hq)) hS1
variable {H0 : Heap}
theorem cs_copy (i j : Nat) (hx : p.tables.exec = Jvm.exec) (hb : c.code = cc) (hml : c.maxLocals = ls.size) (hown : s.vm.findClass own = some m.cls) (hlink : (Cond.methodLink own index arraycopyName).before args s = true) (hnat : (Cond.native arraycopyName).before args s = true) (hstat : (Cond.static arraycopyName).before args s = true) (hini : (Cond.initialized "java/lang/System").before args s = true) (hK : va_K D vwCl (cT y) s) (hP : va_P D vwCl (cW ad y x R) H) (hD : va_D A (cW ad y x R)) (hS : va_S A H0 H locs) (hmi : (26, i) ∈ R) (hmj : (26, j) ∈ R) (hframes : 1 ≤ Rm.frames) (hlocals : (rest.map fun v => v.category).sum + (nativeFrameWords "java/lang/System" "arraycopy" 5 + 11) ≤ Rm.locals) (hdg : decode cc pc = .ok (.invokestatic index, 3))
    (kk : ∀ (H1 : Heap) (locs1 : List Loc), va_P D vwCl (cW ad y (fun a b d => if a = 26 ∧ b = i ∧ d < 51 then x.1 26 j d else x.1 a b d, x.2) R) H1 → va_D A (cW ad y (fun a b d => if a = 26 ∧ b = i ∧ d < 51 then x.1 26 j d else x.1 a b d, x.2) R) → va_S A H0 H1 locs1 → W p l e Rm s m args below meth c H1 locs1 cells slots Q (F0 m (pc + 3) ls rest)) : W p l e Rm s m args below meth c H locs cells slots Q (F0 m pc ls (.int 51 :: .int 0 :: .ref (ad 26 i) :: .int 0 :: .ref (ad 26 j) :: rest)) := by
  obtain ⟨k, hk0, hk⟩ := cW_pos (ad := ad) (y := y) (x := x) hmi
  obtain ⟨k2, -, hk2⟩ := cW_pos (ad := ad) (y := y) (x := x) hmj
  have hw := cW_set (x' := (fun a b d => if a = 26 ∧ b = i ∧ d < 51 then x.1 26 j d else x.1 a b d, x.2)) (e := .inl (y 1, 51, .inl (va_cpy (x.1 26 j) (x.1 26 i) 0 0 51))) hD hk0 (fun a b h => ⟨funext fun d => if_neg (fun q => h ⟨q.1, q.2.1⟩), rfl, rfl⟩) (by
    show _ = Sum.inl (y 1, 51, Sum.inl _)
    congr 4
    funext d
    by_cases hd : d < 51
    · rw [pk_cpy_in (Nat.zero_le _) (by omega)]; simp [hd]
    · rw [pk_cpy_out (by omega)]; simp [hd])
  exact va_copyi hx hb hml hown hlink hnat hstat hini hK hP hD hS k2 k 1 1 (ty := .int) hk2 hk rfl rfl rfl (by decide) (by decide) (by decide) (by decide) (by decide) (fun _ _ => rfl) hframes hlocals hdg (fun H1 locs1 h1 h2 h3 => kk H1 locs1 (hw ▸ h1) (hw ▸ h2) h3)
end AV
def cCp (x : cS) (i j : Nat) : cS := (fun a b d => if a = 26 ∧ b = i ∧ d < 51 then x.1 26 j d else x.1 a b d, x.2)
set_option maxHeartbeats 4000000 in
set_option maxRecDepth 100000 in
/-- LawText.copy -/
theorem ctX6_copy (l : Launch) (D : va_G) (y : Nat → ClassId) (ad : Nat → Nat → Nat) (x : cS) (R : List (Nat × Nat)) (qs : Nat → Nat × Nat) (nC nT : Nat) (hR : cHas R nC nT) (i j : Nat) (hi : i < nT + 2) (hj : j < nT + 2) : cMv l yX6_copy wsX6_copy ({ frames := 1, cells := 0, slots := 0, locals := 27 }) D y ad x R qs [.ref (ad 25 i), .ref (ad 25 j)] (fun x' => x' = cCp x i j) := by
  refine cMv_of (cc := cX6_copy) (maxL := 2) (ret := none) (by decide) rfl (Nat.le_of_ble_eq_true rfl) ?_
  intro p e s m below meth c A ls hat hAe hl
  obtain ⟨hx, hb, hr, hml, hts, hown, hlocks, hK, hP, hD, hA, hE⟩ := hat
  have hown : s.vm.findClass RX6 = some m.cls := hown
  have hin6 : ∀ w ∈ wsX60, w ∈ wsX6_copy := fun _ h9 => List.mem_cons_of_mem _ (List.mem_append_right _ h9)
  have hl : lv_has ls 2 [(0, .ref (ad 25 i)), (1, .ref (ad 25 j))] := hl
  have hS : va_S A s.heap s.heap [] := va_S.rf
  refine lv_aload_n hx hb dX6_copy_0 rfl (lv_at hl 1 rfl) ?_
  refine cg_X6_values (i := j) hx hb hts hin6 hown hK hP ((hR 25 (j)).mpr hj) (by decide +kernel) dX6_copy_1 ?_
  refine lv_iconst (v := 0) hx hb dX6_copy_4 (by decide) ?_
  refine lv_aload_n hx hb dX6_copy_5 rfl (lv_at hl 0 rfl) ?_
  refine cg_X6_values (i := i) hx hb hts hin6 hown hK hP ((hR 25 (i)).mpr hi) (by decide +kernel) dX6_copy_6 ?_
  refine lv_iconst (v := 0) hx hb dX6_copy_9 (by decide) ?_
  refine lv_aload_n hx hb dX6_copy_10 rfl (lv_at hl 0 rfl) ?_
  refine cg_X6_values (i := i) hx hb hts hin6 hown hK hP ((hR 25 (i)).mpr hi) (by decide +kernel) dX6_copy_11 ?_
  refine c_len (t0 := 1) 26 (i) hx hb hK hP ((hR 26 (i)).mpr hi) rfl rfl dX6_copy_14 ?_
  refine cs_copy i j hx hb (by rw [hml]; exact hl.1.symm) hown (hts _ (by decide +kernel)) (hts _ (by decide +kernel)) (hts _ (by decide +kernel)) (hts _ (by decide +kernel)) hK hP hD hS ((hR 26 i).mpr hi) ((hR 26 j).mpr hj) (Nat.le_of_ble_eq_true rfl) (Nat.le_of_ble_eq_true rfl) dX6_copy_15 (fun H locs hP hD hS => ?_)
  exact c_retv hx hb hr hlocks hAe hK hP hD hS dX6_copy_18 (rfl)
def cTxt (x : cS) (i : Nat) : cS := (fun a b d => if a = 25 ∧ b = i then -1 else if a = 26 ∧ b = i then fPl d else x.1 a b d, x.2)
theorem cHas_t {R : List (Nat × Nat)} {nC nT : Nat} (h : cHas R nC nT) : cHas (R ++ [(25, nT + 2), (26, nT + 2)]) nC (nT + 1) := by
  intro κ i
  rw [List.mem_append, h κ i]
  simp only [List.mem_cons, List.not_mem_nil, or_false, Prod.mk.injEq]
  by_cases h1 : κ = 25
  · subst h1
    show i < nT + 2 ∨ ((25 = 25 ∧ i = nT + 2) ∨ (25 = 26 ∧ i = nT + 2)) ↔ i < nT + 1 + 2
    omega
  · by_cases h2 : κ = 26
    · subst h2
      show i < nT + 2 ∨ ((26 = 25 ∧ i = nT + 2) ∨ (26 = 26 ∧ i = nT + 2)) ↔ i < nT + 1 + 2
      omega
    · have : cap nC nT κ = cap nC (nT + 1) κ := by
        unfold cap
        split <;> first | rfl | exact absurd rfl h1 | exact absurd rfl h2
      rw [this]
      simp [h1, h2]
theorem cW_txt {ad : Nat → Nat → Nat} {y : Nat → ClassId} {x : cS} {R : List (Nat × Nat)} {nC nT q a : Nat} (hR : cHas R nC nT) (hx : cRef nC nT x) : cW ad y x R ++ [(q, .inr (6, [.ref a, .int (-1)])), (a, .inl (y 1, 51, .inl fPl))] = cW (up2 (up2 ad 25 (nT + 2) q) 26 (nT + 2) a) y (cTxt x (nT + 2)) (R ++ [(25, nT + 2), (26, nT + 2)]) := by
  have h1 : cW (up2 (up2 ad 25 (nT + 2) q) 26 (nT + 2) a) y (cTxt x (nT + 2)) R = cW ad y x R := by
    refine cW_ext (fun b i hi => ?_)
    have hlt := (hR b i).mp hi
    have hn5 : ¬ (b = 25 ∧ i = nT + 2) := by
      rintro ⟨e1, e2⟩
      rw [e1, e2] at hlt
      exact absurd hlt (Nat.lt_irrefl _)
    have hn6 : ¬ (b = 26 ∧ i = nT + 2) := by
      rintro ⟨e1, e2⟩
      rw [e1, e2] at hlt
      exact absurd hlt (Nat.lt_irrefl _)
    refine ⟨(up2_n hn6).trans (up2_n hn5), ?_⟩
    have e1 : (cTxt x (nT + 2)).1 b i = x.1 b i := funext fun c => (if_neg hn5).trans (if_neg hn6)
    rw [e1]
    refine cE_ad (fun a' b' h9 => (up2_n (by omega)).trans (up2_n (by omega))) (fun b' h9 => (up2_n (by omega)).trans (up2_n (by omega))) (fun h9 => ?_) (fun h9 j c h8 => (up2_n (by omega)).trans (up2_n (by have := (hx b i j c h8).1 h9; omega))) (fun _ j c _ => (up2_n (by omega)).trans (up2_n (by omega)))
    exact (up2_n (fun q9 => hn5 ⟨h9, q9.2⟩)).trans (up2_n (by omega))
  have h2 : cW (up2 (up2 ad 25 (nT + 2) q) 26 (nT + 2) a) y (cTxt x (nT + 2)) [(25, nT + 2), (26, nT + 2)] = [(q, .inr (6, [.ref a, .int (-1)])), (a, .inl (y 1, 51, .inl fPl))] := by
    have e5 : up2 (up2 ad 25 (nT + 2) q) 26 (nT + 2) a 25 (nT + 2) = q := (up2_n (by omega)).trans up2_s
    have e6 : up2 (up2 ad 25 (nT + 2) q) 26 (nT + 2) a 26 (nT + 2) = a := up2_s
    show [(_, _), (_, _)] = _
    rw [e5, e6]
    simp [cE, cTxt, e6]
  rw [← h1, ← h2, cW, cW, cW, List.map_append]
def cEn (x : cS) (nT : Nat) (day : Int32) : cS := cI (cO (cI (cI (cCp (cTxt x (nT + 2)) (nT + 2) 0) 25 (nT + 2) 1 day) 26 (nT + 2) 50 (nI nT)) 7 0 nT (some (nT + 2))) 6 0 2 (nI (nT + 1))
set_option maxHeartbeats 4000000 in
set_option maxRecDepth 100000 in
theorem enact_tail (l : Launch) (D : va_G) (y : Nat → ClassId) (ad ad0 : Nat → Nat → Nat) (x9 : cS) (R R0 : List (Nat × Nat)) (qs : Nat → Nat × Nat) (nC nT : Nat) (hR : cHas R nC (nT + 1)) (day : Int32) (hT15 : nT < 15) (x : cS) (hsz : x.1 6 0 2 = nI nT) (post : Int32 → cS × (Nat → Nat → Nat) × List (Nat × Nat) → Prop) (hpost : post (nI nT) (cI (cO (cI (cI (cCp x (nT + 2) 0) 25 (nT + 2) 1 day) 26 (nT + 2) 50 (nI nT)) 7 0 nT (some (nT + 2))) 6 0 2 (nI (nT + 1)), ad, R))
    (p : Program) (e : Env) (s : State) (m : MethodId) (below : List Frame) (meth : Method) (c : Code) (A : Nat → Prop) (ls : Array Slot) (args : Array Value) (H : Heap) (locs : List Loc) (hx : p.tables.exec = Jvm.exec) (hb : c.code = cX4_enact) (hr : meth.sig.returnType = some .int) (hml : c.maxLocals = 4) (hts : ∀ w ∈ wsX4_enact, w.before args s = true) (hown : s.vm.findClass RX4 = some m.cls) (hlocks : meth.locks = false) (hK : va_K D vwCl (cT y) s) (hP : va_P D vwCl (cW ad y x R) H) (hD : va_D A (cW ad y x R)) (hS : va_S A s.heap H locs) (hA : ∀ q, s.heap.size ≤ q → A q) (hE : cEnv qs A s s.heap) (hAe : A = cA ad0 R0 s.heap.size) (hl : lv_has ls 4 [(0, .ref (ad 6 0)), (1, .ref (ad 25 0)), (2, .int day)]) :
    W p l e (headSpec wsX4_enact ({ frames := 3, cells := 2, slots := 53, locals := 90 })).room s m args below meth c H locs 2 53 (MQ below (va_Qi post (aEnd D y ad0 R0 s.heap.size) A) args s 2 53 A) (F0 m 19 ls [.ref (ad 25 (nT + 2))]) := by
  have hin4 : ∀ w ∈ wsX40, w ∈ wsX4_enact := fun _ h9 => List.mem_cons_of_mem _ (List.mem_append_left _ (List.mem_append_right _ h9))
  have hin6 : ∀ w ∈ wsX60, w ∈ wsX4_enact := fun _ h9 => List.mem_cons_of_mem _ (List.mem_append_right _ h9)
  refine lv_astore_n (lv' := [(3, .ref (ad 25 (nT + 2))), (0, .ref (ad 6 0)), (1, .ref (ad 25 0)), (2, .int day)]) hx hb dX4_enact_19 rfl hl (by decide) rfl (fun ls hl => ?_)
  refine lv_aload_n hx hb dX4_enact_20 rfl (lv_at hl 0 rfl) ?_
  refine lv_aload_n hx hb dX4_enact_21 rfl (lv_at hl 2 rfl) ?_
  refine c_callv (ci := 6) (q := (RX6, TX6, 2)) (κ := 25) (i := nT + 2) (As := [.ref (ad 25 0)]) (rest := []) ⟨hx, hb, hml, hown, hts⟩ (ctX6_copy l D y ad x R qs nC (nT + 1) hR (nT + 2) 0 (by omega) (by omega)) (cwV 1 hts gX4_enact_X6_copy rfl rfl rfl (by decide +kernel) ⟨Nat.le_of_ble_eq_true rfl, Nat.le_of_ble_eq_true rfl⟩) ((hR 25 (nT + 2)).mpr (show nT + 2 < nT + 1 + 2 by omega)) (fun _ _ _ => ⟨_, rfl⟩) rfl hE hK hP hD hS hA rfl hl.1 rfl (Nat.le_of_ble_eq_true rfl) dX4_enact_22 ⟨Nat.le_of_ble_eq_true rfl, Nat.le_of_ble_eq_true rfl⟩ (fun xc H locs hc9 hP hD hS => ?_)
  rw [hc9] at hP hD
  refine lv_aload_n hx hb dX4_enact_25 rfl (lv_at hl 0 rfl) ?_
  refine lv_iload_n hx hb dX4_enact_26 rfl (lv_at hl 3 rfl) ?_
  refine cp_X6_firstDay (i := nT + 2) hx hb hts hin6 hown hK hP hD hS ((hR 25 (nT + 2)).mpr (show nT + 2 < nT + 1 + 2 by omega)) (by decide +kernel) dX4_enact_27 (fun H locs hP hD hS => ?_)
  refine lv_aload_n hx hb dX4_enact_30 rfl (lv_at hl 0 rfl) ?_
  refine lv_bipush (v := 50) hx hb dX4_enact_31 (by decide) ?_
  refine lv_aload_n hx hb dX4_enact_33 rfl (lv_at hl 1 rfl) ?_
  refine cg_X4_size (i := 0) hx hb hts hin4 hown hK hP ((hR 6 (0)).mpr Nat.zero_lt_one) (by decide +kernel) dX4_enact_34 ?_
  rw [show (cI (cCp x (nT + 2) 0) 25 (nT + 2) 1 day).1 6 0 2 = nI nT by simp [cI_r, cCp, hsz]]
  refine c_callv (ci := 6) (q := (RX6, TX6, 2)) (κ := 25) (i := nT + 2) (As := [.int 50, .int (nI nT)]) (rest := []) ⟨hx, hb, hml, hown, hts⟩ (ctX6_tell l D y ad (cI (cCp x (nT + 2) 0) 25 (nT + 2) 1 day) R qs nC (nT + 1) hR (nT + 2) 50 (nI nT) (show nT + 2 < nT + 1 + 2 by omega)) (cwV 2 hts gX4_enact_X6_tell rfl rfl rfl (by decide +kernel) ⟨Nat.le_of_ble_eq_true rfl, Nat.le_of_ble_eq_true rfl⟩) ((hR 25 (nT + 2)).mpr (show nT + 2 < nT + 1 + 2 by omega)) (fun _ _ _ => ⟨_, rfl⟩) rfl hE hK hP hD hS hA rfl hl.1 rfl (Nat.le_of_ble_eq_true rfl) dX4_enact_37 ⟨Nat.le_of_ble_eq_true rfl, Nat.le_of_ble_eq_true rfl⟩ (fun xt9 H locs ht9 hP hD hS => ?_)
  rw [ht9, show cTell (cI (cCp x (nT + 2) 0) 25 (nT + 2) 1 day) (nT + 2) 50 (nI nT) = cI (cI (cCp x (nT + 2) 0) 25 (nT + 2) 1 day) 26 (nT + 2) 50 (nI nT) from cTell_k (cI (cCp x (nT + 2) 0) 25 (nT + 2) 1 day) (nT + 2) (nI nT) (j := 50) (by omega)] at hP hD
  refine lv_aload_n hx hb dX4_enact_40 rfl (lv_at hl 1 rfl) ?_
  refine cg_X4_texts (i := 0) hx hb hts hin4 hown hK hP ((hR 6 (0)).mpr Nat.zero_lt_one) (by decide +kernel) dX4_enact_41 ?_
  refine lv_aload_n hx hb dX4_enact_44 rfl (lv_at hl 1 rfl) ?_
  refine cg_X4_size (i := 0) hx hb hts hin4 hown hK hP ((hR 6 (0)).mpr Nat.zero_lt_one) (by decide +kernel) dX4_enact_45 ?_
  refine lv_aload_n hx hb dX4_enact_48 rfl (lv_at hl 0 rfl) ?_
  refine cs_ref 7 (0) 15 25 5 6 (nT + 2) hx hb hK hP hD hS ((hR 7 (0)).mpr Nat.zero_lt_one) (fun _ _ _ => rfl) rfl ((hR 25 (nT + 2)).mpr (show nT + 2 < nT + 1 + 2 by omega)) (fun _ _ _ => ⟨_, rfl⟩) rfl (by rw [show (cI (cI (cCp x (nT + 2) 0) 25 (nT + 2) 1 day) 26 (nT + 2) 50 (nI nT)).1 6 0 2 = nI nT by simp [cI_r, cCp, hsz]]; exact vp_in_nI hT15 (by omega)) dX4_enact_49 (fun H locs hP hD hS => ?_)
  rw [show (cI (cI (cCp x (nT + 2) 0) 25 (nT + 2) 1 day) 26 (nT + 2) 50 (nI nT)).1 6 0 2 = nI nT by simp [cI_r, cCp, hsz], nI_clamp (by omega)] at hP hD
  refine lv_aload_n hx hb dX4_enact_50 rfl (lv_at hl 1 rfl) ?_
  refine lv_dup hx hb dX4_enact_51 rfl ?_
  refine cg_X4_size (i := 0) hx hb hts hin4 hown hK hP ((hR 6 (0)).mpr Nat.zero_lt_one) (by decide +kernel) dX4_enact_52 ?_
  refine lv_iconst (v := 1) hx hb dX4_enact_55 (by decide) ?_
  refine lv_iadd hx hb dX4_enact_56 ?_
  refine cp_X4_size (i := 0) hx hb hts hin4 hown hK hP hD hS ((hR 6 (0)).mpr Nat.zero_lt_one) (by decide +kernel) dX4_enact_57 (fun H locs hP hD hS => ?_)
  rw [show (cO (cI (cI (cCp x (nT + 2) 0) 25 (nT + 2) 1 day) 26 (nT + 2) 50 (nI nT)) 7 0 nT (some (nT + 2))).1 6 0 2 + 1 = nI (nT + 1) by rw [cO_l]; simp [cI_r, cCp, hsz, nI_1]] at hP hD
  refine lv_aload_n hx hb dX4_enact_60 rfl (lv_at hl 1 rfl) ?_
  refine cg_X4_size (i := 0) hx hb hts hin4 hown hK hP ((hR 6 (0)).mpr Nat.zero_lt_one) (by decide +kernel) dX4_enact_61 ?_
  refine lv_iconst (v := 1) hx hb dX4_enact_64 (by decide) ?_
  refine lv_isub hx hb dX4_enact_65 ?_
  rw [show (cI (cO (cI (cI (cCp x (nT + 2) 0) 25 (nT + 2) 1 day) 26 (nT + 2) 50 (nI nT)) 7 0 nT (some (nT + 2))) 6 0 2 (nI (nT + 1))).1 6 0 2 - 1 = nI nT by rw [cI_r, if_pos ⟨rfl, rfl, rfl⟩, nI_pred]]
  exact a_reti hx hb hr hlocks hAe hK hP hD hS (Nat.le_refl _) (Nat.le_refl _) rfl dX4_enact_66 hpost
set_option maxHeartbeats 4000000 in
set_option maxRecDepth 100000 in
theorem ctX4_enact (l : Launch) (D : va_G) (y : Nat → ClassId) (ad : Nat → Nat → Nat) (x : cS) (R : List (Nat × Nat)) (qs : Nat → Nat × Nat) (nC nT : Nat) (hR : cHas R nC nT) (day : Int32) (hsz : x.1 6 0 2 = nI nT) (hT15 : nT ≤ 15) (hrf : cRef nC nT x) : aMi l yX4_enact wsX4_enact ({ frames := 3, cells := 2, slots := 53, locals := 90 }) 2 53 D y ad x R qs [.ref (ad 6 0), .ref (ad 25 0), .int day] (fun r u => (nT = 15 → r = -3 ∧ u = (x, ad, R)) ∧ (nT < 15 → r = nI nT ∧ ∃ q a, u = (cEn x nT day, up2 (up2 ad 25 (nT + 2) q) 26 (nT + 2) a, R ++ [(25, nT + 2), (26, nT + 2)]))) := by
  refine aMi_of (cc := cX4_enact) (maxL := 4) (ret := (some .int)) (by decide) rfl (Nat.le_of_ble_eq_true rfl) ?_
  intro p e s m below meth c A ls hat hN hAe hl
  obtain ⟨hx, hb, hr, hml, hts, hown, hlocks, hK, hP, hD, hA, hE⟩ := hat
  have hown : s.vm.findClass RX4 = some m.cls := hown
  have hin4 : ∀ w ∈ wsX40, w ∈ wsX4_enact := fun _ h9 => List.mem_cons_of_mem _ (List.mem_append_left _ (List.mem_append_right _ h9))
  have hin6 : ∀ w ∈ wsX60, w ∈ wsX4_enact := fun _ h9 => List.mem_cons_of_mem _ (List.mem_append_right _ h9)
  have hl : lv_has ls 4 [(0, .ref (ad 6 0)), (1, .ref (ad 25 0)), (2, .int day)] := hl
  have hS : va_S A s.heap s.heap [] := va_S.rf
  refine lv_aload_n hx hb dX4_enact_0 rfl (lv_at hl 0 rfl) ?_
  refine cg_X4_size (i := 0) hx hb hts hin4 hown hK hP ((hR 6 (0)).mpr Nat.zero_lt_one) (by decide +kernel) dX4_enact_1 ?_
  refine lv_bipush (v := 15) hx hb dX4_enact_4 (by decide) ?_
  refine lv_icmp_lt (tgt := 12) hx hb dX4_enact_6 (by decide) (fun c_6 => ?_) (fun c_6 => ?_)
  · have hlt : nT < 15 := by rw [hsz] at c_6; exact (nI_ltI (b := 15) (by omega) (by omega)).mp c_6
    refine va_new (ci := 6) (fs := [.null, .int 0]) (C := RX6) (T := TX6) (N := 2) hx hb hts hin6 tyX6 tyX6_ok hown (hts (.classLink RX4 11 RX6) (by decide +kernel)) (hts (.instantiable RX6 2) (by decide +kernel)) (hts (.initialized RX6) (by decide +kernel)) hK hP hD hS hA rfl (fun j hj => by rcases (show j = 0 ∨ j = 1 by omega) with rfl | rfl <;> rfl) (Nat.le_of_ble_eq_true rfl) (Nat.le_of_ble_eq_true rfl) dX4_enact_12 (fun q1 H hP hD hS => ?_)
    refine lv_dup hx hb dX4_enact_15 rfl ?_
    refine l_call (W0 := cW ad y x R) (As := []) (rest := [.ref q1]) ⟨hx, hb, hml, hown, hts⟩ (ctX6_init l D y qs q1) (cwI 0 hts gX4_enact_X6_init rfl rfl rfl (hts (.initialized RX6) (by decide +kernel)) (hts (.methodLink RX4 17 yX6_init) (by decide +kernel)) (hts (.instanceMethod yX6_init) (by decide +kernel)) rfl (by decide +kernel) ⟨Nat.le_of_ble_eq_true rfl, Nat.le_of_ble_eq_true rfl⟩) ⟨hE, hN⟩ hK hP hD hS hA rfl hl.1 rfl (Nat.le_of_ble_eq_true rfl) dX4_enact_16 ⟨Nat.le_of_ble_eq_true rfl, Nat.le_of_ble_eq_true rfl⟩ (fun w1 H locs hw1 hP hD hS => ?_)
    obtain ⟨a1, rfl⟩ := hw1
    rw [cW_txt hR hrf] at hP hD
    have e5 : up2 (up2 ad 25 (nT + 2) q1) 26 (nT + 2) a1 25 (nT + 2) = q1 := (up2_n (by omega)).trans up2_s
    have e0 : up2 (up2 ad 25 (nT + 2) q1) 26 (nT + 2) a1 25 0 = ad 25 0 := (up2_n (by omega)).trans (up2_n (by omega))
    have e1 : up2 (up2 ad 25 (nT + 2) q1) 26 (nT + 2) a1 6 0 = ad 6 0 := (up2_n (by omega)).trans (up2_n (by omega))
    have ht := enact_tail l D y (up2 (up2 ad 25 (nT + 2) q1) 26 (nT + 2) a1) ad x (R ++ [(25, nT + 2), (26, nT + 2)]) R qs nC nT (cHas_t hR) day hlt (cTxt x (nT + 2)) hsz (fun r u => (nT = 15 → r = -3 ∧ u = (x, ad, R)) ∧ (nT < 15 → r = nI nT ∧ ∃ q a, u = (cEn x nT day, up2 (up2 ad 25 (nT + 2) q) 26 (nT + 2) a, R ++ [(25, nT + 2), (26, nT + 2)]))) ⟨fun q9 => by omega, fun _ => ⟨rfl, q1, a1, rfl⟩⟩ p e s m below meth c A ls ([.ref (ad 6 0), .ref (ad 25 0), .int day] : List Value).toArray H locs hx hb hr hml hts hown hlocks hK hP hD hS hA hE hAe (by rw [e0, e1]; exact hl)
    rw [e5] at ht
    exact ht
  · have hlt : ¬ nT < 15 := fun q9 => c_6 (by rw [hsz]; exact (nI_ltI (b := 15) (by omega) (by omega)).mpr q9)
    refine lv_bipush (v := (-3)) hx hb dX4_enact_9 (by decide) ?_
    exact a_reti hx hb hr hlocks hAe hK hP hD hS (Nat.zero_le _) (Nat.zero_le _) rfl dX4_enact_11 ⟨fun _ => ⟨rfl, rfl⟩, fun q9 => by omega⟩
