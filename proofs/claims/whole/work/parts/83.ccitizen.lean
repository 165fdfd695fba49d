/-! the landed program: calls that make objects -/
def up2 (ad : Nat → Nat → Nat) (κ n q : Nat) : Nat → Nat → Nat := fun a b => if a = κ ∧ b = n then q else ad a b
theorem up2_n {ad : Nat → Nat → Nat} {κ n q a b : Nat} (h : ¬ (a = κ ∧ b = n)) : up2 ad κ n q a b = ad a b := if_neg h
theorem up2_s {ad : Nat → Nat → Nat} {κ n q : Nat} : up2 ad κ n q κ n = q := if_pos ⟨rfl, rfl⟩
theorem map_ad {f g : Nat → Nat} {o : Option Nat} (h : ∀ c, o = some c → f c = g c) : o.map f = o.map g := by
  cases o with
  | none => rfl
  | some c => exact congrArg some (h c rfl)
/-- a cell speaks of few addresses -/
theorem cE_ad {ad ad' : Nat → Nat → Nat} {y : Nat → ClassId} {κ i : Nat} {f : Nat → Int32} {g : Nat → Int64} {o : Nat → Option Nat} (h0 : ∀ a b, a < 24 → ad' a b = ad a b) (h25 : ∀ b, b < 2 → ad' 25 b = ad 25 b) (h26 : κ = 25 → ad' 26 i = ad 26 i) (h7 : κ = 7 → ∀ j c, o j = some c → ad' 25 c = ad 25 c) (h24 : κ ≠ 7 → ∀ j c, o j = some c → ad' 24 c = ad 24 c) : cE ad' y κ i f g o = cE ad y κ i f g o := by
  unfold cE
  split
  · rw [h0 1 0 (by omega), h0 3 0 (by omega), h0 6 0 (by omega), h0 8 0 (by omega), h0 9 0 (by omega), h0 14 0 (by omega), h0 17 0 (by omega)]
  · rw [h0 2 0 (by omega)]
  · rfl
  · rw [h0 1 0 (by omega), h25 0 (by omega), h0 4 0 (by omega), h0 5 0 (by omega)]
  · rfl
  · rfl
  · rw [h0 7 0 (by omega), h25 1 (by omega)]
  · rw [show (fun j => Option.map (ad' 25) (o j)) = fun j => Option.map (ad 25) (o j) from funext fun j => map_ad (h7 rfl j)]
  · rw [show (fun j => Option.map (ad' 24) (o j)) = fun j => Option.map (ad 24) (o j) from funext fun j => map_ad (h24 (by decide) j)]
  · rw [h0 10 0 (by omega), h0 11 0 (by omega), h0 12 0 (by omega), h0 13 0 (by omega)]
  · rw [show (fun j => Option.map (ad' 24) (o j)) = fun j => Option.map (ad 24) (o j) from funext fun j => map_ad (h24 (by decide) j)]
  · rfl
  · rfl
  · rw [show (fun j => Option.map (ad' 24) (o j)) = fun j => Option.map (ad 24) (o j) from funext fun j => map_ad (h24 (by decide) j)]
  · rw [h0 15 0 (by omega)]
  · rw [show (fun j => if j < 13 then some (ad' 16 j) else none) = fun j => if j < 13 then some (ad 16 j) else none from funext fun j => by rw [h0 16 j (by omega)]]
  · rfl
  · rw [show (fun j => if j < 5 then some (ad' 18 j) else none) = fun j => if j < 5 then some (ad 18 j) else none from funext fun j => by rw [h0 18 j (by omega)]]
  · rw [h0 19 i (by omega), h0 20 i (by omega)]
  · rfl
  · rw [h0 21 i (by omega), h0 22 i (by omega), h0 23 i (by omega)]
  · rfl
  · rfl
  · rfl
  · rfl
  · rw [h26 rfl]
  · rfl
theorem cW_ext {ad ad' : Nat → Nat → Nat} {y : Nat → ClassId} {x x' : cS} {R : List (Nat × Nat)} (h : ∀ a b, (a, b) ∈ R → ad' a b = ad a b ∧ cE ad' y a b (x'.1 a b) (x'.2.1 a b) (x'.2.2 a b) = cE ad y a b (x.1 a b) (x.2.1 a b) (x.2.2 a b)) : cW ad' y x' R = cW ad y x R := by
  unfold cW
  apply List.map_congr_left
  rintro ⟨a, b⟩ hab
  obtain ⟨h1, h2⟩ := h a b hab
  show (ad' a b, _) = (ad a b, _)
  rw [h1, h2]
/-- what rows of references hold -/
def cRef (nC nT : Nat) (x : cS) : Prop := ∀ κ i j c, x.2.2 κ i j = some c → (κ = 7 → c < nT + 2) ∧ (κ ≠ 7 → c < nC)
def aEnd (D : va_G) (y : Nat → ClassId) (ad : Nat → Nat → Nat) (R : List (Nat × Nat)) (sz : Nat) (u : cS × (Nat → Nat → Nat) × List (Nat × Nat)) (t : State) : Prop := va_P D vwCl (cW u.2.1 y u.1 u.2.2) t.heap ∧ va_K D vwCl (cT y) t ∧ va_D (cA ad R sz) (cW u.2.1 y u.1 u.2.2)
def aMi (l : Launch) (ym : MethodName) (ws : List Cond) (rm : Room) (mc ms : Nat) (D : va_G) (y : Nat → ClassId) (ad : Nat → Nat → Nat) (x : cS) (R : List (Nat × Nat)) (qs : Nat → Nat × Nat) (as : List Value) (post : Int32 → cS × (Nat → Nat → Nat) × List (Nat × Nat) → Prop) : Prop := ∀ sz, Met l ym ws rm (fun a U => cPre D y ad x R qs sz as a U ∧ cNN U) (va_Qi post (aEnd D y ad R sz) (cA ad R sz)) mc ms (cA ad R sz)
theorem aMi_of {l : Launch} {ym : MethodName} {ws ws' : List Cond} {rm : Room} {mc ms : Nat} {D : va_G} {y : Nat → ClassId} {ad : Nat → Nat → Nat} {x : cS} {R : List (Nat × Nat)} {qs : Nat → Nat × Nat} {as : List Value} {post : Int32 → cS × (Nat → Nat → Nat) × List (Nat × Nat) → Prop} {cc : ByteArray} {maxL : Nat} {ret : Option FieldType} (hy : plainName ym.cls = true) (hw : ws = Cond.code ym cc maxL ret :: ws') (hf : (lg_sl as).length ≤ maxL)
    (body : ∀ (p : Program) (e : Env) (s : State) (m : MethodId) (below : List Frame) (meth : Method) (c : Code) (A : Nat → Prop) (ls : Array Slot), cAt p s m meth c as.toArray cc maxL ret ws ym.cls D y ad A x R qs → cNN s → A = cA ad R s.heap.size → lv_has ls maxL (lv_args 0 as) → W p l e (headSpec ws rm).room s m as.toArray below meth c s.heap [] 0 0 (MQ below (va_Qi post (aEnd D y ad R s.heap.size) A) as.toArray s mc ms A) (F0 m 0 ls [])) : aMi l ym ws rm mc ms D y ad x R qs as post := by
  intro sz
  refine Met.ofW (cc := cc) (maxL := maxL) (ret := ret) hy hw ?_
  intro p e s m args below meth c s₁ B hml hv
  obtain ⟨⟨rfl, hsz, hP, hK, hD0, hE⟩, hN⟩ := hv
  subst hsz
  have hown : s.vm.findClass ym.cls = some m.cls := findClass_of_methodNamed B.named
  rw [lg_entry_eq]
  exact body p e s m below meth c (cA ad R s.heap.size) _ ⟨B.exec, B.bytes, B.returns, hml, atoms_spec (ws := ws) B.pre, hown, B.notSynchronized, hK, hP, cD_self hD0, fun q hq => Or.inr hq, hE⟩ hN rfl (lv_entry as hf)
section AC
variable {p : Program} {l : Launch} {e : Env} {Rm : Room} {s : State} {m : MethodId} {args : Array Value} {below : List Frame} {meth : Method} {c : Code} {H : Heap} {locs : List Loc} {cells slots mc ms : Nat}
variable {cc : ByteArray} {pc : Nat} {ls : Array Slot} {D : va_G} {A : Nat → Prop} {y : Nat → ClassId} {ad ad' : Nat → Nat → Nat} {x : cS} {R R' : List (Nat × Nat)}
theorem a_reti {post : Int32 → cS × (Nat → Nat → Nat) × List (Nat × Nat) → Prop} {r : Int32} {ty : FieldType} (hx : p.tables.exec = Jvm.exec) (hb : c.code = cc) (hr : meth.sig.returnType = some ty) (hlocks : meth.locks = false) (hAe : A = cA ad R s.heap.size) (hK : va_K D vwCl (cT y) s) (hP : va_P D vwCl (cW ad' y x R') H) (hD : va_D A (cW ad' y x R')) (hS : va_S A s.heap H locs) (hc : cells ≤ mc) (hs : slots ≤ ms) (hn : narrow ty (.int r) = .int r) (hdg : decode cc pc = .ok (.ireturn, 1)) (hp : post r (x, ad', R')) : W p l e Rm s m args below meth c H locs cells slots (MQ below (va_Qi post (aEnd D y ad R s.heap.size) A) args s mc ms A) (F0 m pc ls [.int r]) := by
  refine W.widen hc hs ?_
  exact W.zret (v := r) hx hb hr hn (fun t ht hW => ⟨⟨r, (x, ad', R'), rfl, hp, by rw [ht]; exact hP, va_K.moved hW.alike hK, by rw [← hAe]; exact hD⟩, hS.F ht⟩) hS.2.2 hdg
end AC
def cCf (n : Nat) (t w b : Int32) (c : Nat) : Int32 := if c = 0 then nI n else if c = 1 then t else if c = 2 then w else if c = 3 then b else if c = 7 then -1 else if c = 9 then -1 else 0
def cCit (x : cS) (n : Nat) (t w b : Int32) : cS := (fun a i c => if a = 24 ∧ i = n then cCf n t w b c else x.1 a i c, x.2)
def csCit1 (x : cS) (n : Nat) (t w b : Int32) : cS := cI (cO (cCit x n t w b) 8 0 n (some n)) 0 0 7 (nI (n + 1))
theorem cHas_c {R : List (Nat × Nat)} {nC nT : Nat} (h : cHas R nC nT) : cHas (R ++ [(24, nC)]) (nC + 1) nT := by
  intro κ i
  rw [List.mem_append, h κ i]
  simp only [List.mem_singleton, Prod.mk.injEq]
  by_cases h1 : κ = 24
  · subst h1
    show i < nC ∨ (24 = 24 ∧ i = nC) ↔ i < nC + 1
    omega
  · have : cap nC nT κ = cap (nC + 1) nT κ := by
      unfold cap
      split <;> first | rfl | exact absurd rfl h1
    rw [this]
    simp [h1]
theorem cW_cit {ad : Nat → Nat → Nat} {y : Nat → ClassId} {x : cS} {R : List (Nat × Nat)} {nC nT q : Nat} {t w b : Int32} (hR : cHas R nC nT) (hx : cRef nC nT x) : cW ad y x R ++ [(q, .inr (1, [.int (nI nC), .int t, .int w, .int b, .int 0, .int 0, .int 0, .int (-1), .int 0, .int (-1)]))] = cW (up2 ad 24 nC q) y (cCit x nC t w b) (R ++ [(24, nC)]) := by
  have h1 : cW (up2 ad 24 nC q) y (cCit x nC t w b) R = cW ad y x R := by
    refine cW_ext (fun a i hi => ?_)
    have hne : ¬ (a = 24 ∧ i = nC) := by
      rintro ⟨e1, e2⟩
      rw [e1, e2] at hi
      have := (hR 24 nC).mp hi
      exact absurd this (Nat.lt_irrefl _)
    refine ⟨up2_n hne, ?_⟩
    have e1 : (cCit x nC t w b).1 a i = x.1 a i := funext fun c => if_neg hne
    rw [e1]
    exact cE_ad (fun a' b' h9 => up2_n (by omega)) (fun b' _ => up2_n (by omega)) (fun _ => up2_n (by omega)) (fun _ j c _ => up2_n (by omega)) (fun h9 j c h8 => up2_n (by have := (hx a i j c h8).2 h9; omega))
  have h2 : cW (up2 ad 24 nC q) y (cCit x nC t w b) [(24, nC)] = [(q, .inr (1, [.int (nI nC), .int t, .int w, .int b, .int 0, .int 0, .int 0, .int (-1), .int 0, .int (-1)]))] := by
    show [(up2 ad 24 nC q 24 nC, _)] = _
    rw [up2_s]
    simp [cE, cCit, cCf]
  rw [← h1, ← h2, cW, cW, cW, List.map_append]
def okCit9 (x : cS) (t w b : Int32) : Prop := isT t = true ∧ isC 5 w = true ∧ ¬ b < -40000 ∧ b < x.1 0 0 8
set_option maxHeartbeats 4000000 in
set_option maxRecDepth 100000 in
theorem ctX9_citizen (l : Launch) (D : va_G) (y : Nat → ClassId) (ad : Nat → Nat → Nat) (x : cS) (R : List (Nat × Nat)) (qs : Nat → Nat × Nat) (nC nT : Nat) (hR : cHas R nC nT) (t w b : Int32) (hn : x.1 0 0 7 = nI nC) (hn1 : nC ≤ 150) (hro : ∀ c, c < nC → x.2.2 8 0 c = some c) (hrf : cRef nC nT x) : aMi l yX9_citizen wsX9_citizen ({ frames := 2, cells := 1, slots := 10, locals := 60 }) 1 10 D y ad x R qs [.ref (ad 0 0), .int t, .int w, .int b] (fun r u => (¬ okCit9 x t w b → r = -2 ∧ u = (x, ad, R)) ∧ (okCit9 x t w b → (nC = 150 → r = -3 ∧ u = (x, ad, R)) ∧ (nC < 150 → r = nI nC ∧ ∃ q, u = (csCit1 x nC t w b, up2 ad 24 nC q, R ++ [(24, nC)])))) := by
  refine aMi_of (cc := cX9_citizen) (maxL := 5) (ret := (some .int)) (by decide) rfl (Nat.le_of_ble_eq_true rfl) ?_
  intro p e s m below meth c A ls hat hN hAe hl
  obtain ⟨hx, hb, hr, hml, hts, hown, hlocks, hK, hP, hD, hA, hE⟩ := hat
  have hown : s.vm.findClass RX9 = some m.cls := hown
  have hin9 : ∀ w ∈ wsX90, w ∈ wsX9_citizen := fun _ h9 => List.mem_cons_of_mem _ (List.mem_append_left _ (List.mem_append_right _ h9))
  have hin1 : ∀ w ∈ wsX10, w ∈ wsX9_citizen := fun _ h9 => List.mem_cons_of_mem _ (List.mem_append_right _ h9)
  have hl : lv_has ls 5 [(0, .ref (ad 0 0)), (1, .int t), (2, .int w), (3, .int b)] := hl
  have hS : va_S A s.heap s.heap [] := va_S.rf
  refine lv_iload_n hx hb dX9_citizen_0 rfl (lv_at hl 1 rfl) ?_
  refine s_calli (As := [.int t]) (rest := []) ⟨hx, hb, hml, hown, hts⟩ (ctX9_isTribe l t) (va_cwS 1 hts gX9_citizen_X9_isTribe rfl rfl rfl (by decide +kernel) ⟨Nat.le_of_ble_eq_true rfl, Nat.le_of_ble_eq_true rfl⟩) hP hS rfl hl.1 rfl (Nat.le_of_ble_eq_true rfl) dX9_citizen_1 ⟨Nat.zero_le _, Nat.zero_le _⟩ (fun H locs hP hS => ?_)
  refine lv_if_eq (tgt := 16) hx hb dX9_citizen_4 (by decide) (fun c_4 => ?_) (fun c_4 => ?_)
  · have b4 : isT t = false := (zI_eq _).mp c_4
    refine lv_bipush (v := (-2)) hx hb dX9_citizen_16 (by decide) ?_
    exact a_reti hx hb hr hlocks hAe hK hP hD hS (Nat.zero_le _) (Nat.zero_le _) rfl dX9_citizen_18 ⟨fun _ => ⟨rfl, rfl⟩, fun q9 => absurd q9 (by simp [okCit9, b4])⟩
  · have b4 : isT t = true := (zI_ne _).mp c_4
    obtain ⟨tt, htt, ett⟩ := (inR_k 10 (hi := 9) rfl (by omega)).mp b4
    refine lv_iload_n hx hb dX9_citizen_7 rfl (lv_at hl 2 rfl) ?_
    refine lv_if_lt (tgt := 16) hx hb dX9_citizen_8 (by decide) (fun c_8 => ?_) (fun c_8 => ?_)
    · have g1 : isC 5 w = false := isC_neg (n := 5) (by omega) c_8
      refine lv_bipush (v := (-2)) hx hb dX9_citizen_16 (by decide) ?_
      exact a_reti hx hb hr hlocks hAe hK hP hD hS (Nat.zero_le _) (Nat.zero_le _) rfl dX9_citizen_18 ⟨fun _ => ⟨rfl, rfl⟩, fun q9 => absurd q9 (by simp [okCit9, g1])⟩
    · refine lv_iload_n hx hb dX9_citizen_11 rfl (lv_at hl 2 rfl) ?_
      refine lv_iconst (v := 5) hx hb dX9_citizen_12 (by decide) ?_
      refine lv_icmp_lt (tgt := 19) hx hb dX9_citizen_13 (by decide) (fun c_13 => ?_) (fun c_13 => ?_)
      · obtain ⟨g1, g2, g3⟩ := isC_lt (n := 5) (by omega) c_8 (Int32.not_le.mpr c_13)
        refine lv_iload_n hx hb dX9_citizen_19 rfl (lv_at hl 3 rfl) ?_
        refine lv_ldc (v := (-40000)) hx hb hown (hts (.constant RX9 102 (-40000)) (by decide +kernel)) dX9_citizen_20 ?_
        refine lv_icmp_lt (tgt := 33) hx hb dX9_citizen_22 (by decide) (fun c_22 => ?_) (fun c_22 => ?_)
        · refine lv_bipush (v := (-2)) hx hb dX9_citizen_33 (by decide) ?_
          exact a_reti hx hb hr hlocks hAe hK hP hD hS (Nat.zero_le _) (Nat.zero_le _) rfl dX9_citizen_35 ⟨fun _ => ⟨rfl, rfl⟩, fun q9 => absurd q9 (by simp [okCit9, c_22, Int32.not_le.mpr c_22])⟩
        · refine lv_iload_n hx hb dX9_citizen_25 rfl (lv_at hl 3 rfl) ?_
          refine lv_aload_n hx hb dX9_citizen_26 rfl (lv_at hl 0 rfl) ?_
          refine cg_X9_clock (i := 0) hx hb hts hin9 hown hK hP ((hR 0 (0)).mpr Nat.zero_lt_one) (by decide +kernel) dX9_citizen_27 ?_
          refine lv_icmp_lt (tgt := 36) hx hb dX9_citizen_30 (by decide) (fun c_30 => ?_) (fun c_30 => ?_)
          · refine lv_aload_n hx hb dX9_citizen_36 rfl (lv_at hl 0 rfl) ?_
            refine cg_X9_citizens (i := 0) hx hb hts hin9 hown hK hP ((hR 0 (0)).mpr Nat.zero_lt_one) (by decide +kernel) dX9_citizen_37 ?_
            refine lv_sipush (v := 150) hx hb dX9_citizen_40 (by decide) ?_
            refine lv_icmp_lt (tgt := 49) hx hb dX9_citizen_43 (by decide) (fun c_43 => ?_) (fun c_43 => ?_)
            · have hn5 : nC < 150 := by rw [hn] at c_43; exact (nI_ltI (b := 150) (by omega) (by omega)).mp c_43
              refine lv_aload_n hx hb dX9_citizen_49 rfl (lv_at hl 0 rfl) ?_
              refine cg_X9_citizens (i := 0) hx hb hts hin9 hown hK hP ((hR 0 (0)).mpr Nat.zero_lt_one) (by decide +kernel) dX9_citizen_50 ?_
              refine lv_topi (fun n4 en4 => ?_)
              refine lv_istore (lv' := [(4, .int n4), (0, .ref (ad 0 0)), (1, .int t), (2, .int w), (3, .int b)]) hx hb dX9_citizen_53 hl (by decide) rfl (fun ls hl => ?_)
              refine lv_aload_n hx hb dX9_citizen_55 rfl (lv_at hl 1 rfl) ?_
              refine cg_X9_roll (i := 0) hx hb hts hin9 hown hK hP ((hR 0 (0)).mpr Nat.zero_lt_one) (by decide +kernel) dX9_citizen_56 ?_
              refine lv_iload hx hb dX9_citizen_59 (lv_at hl 0 rfl) ?_
              refine va_new (ci := 1) (fs := [.int 0, .int 0, .int 0, .int 0, .int 0, .int 0, .int 0, .int 0, .int 0, .int 0]) (C := RX1) (T := TX1) (N := 10) hx hb hts hin1 tyX1 tyX1_ok hown (hts (.classLink RX9 32 RX1) (by decide +kernel)) (hts (.instantiable RX1 10) (by decide +kernel)) (hts (.initialized RX1) (by decide +kernel)) hK hP hD hS hA rfl (fun j hj => by rcases (show j = 0 ∨ j = 1 ∨ j = 2 ∨ j = 3 ∨ j = 4 ∨ j = 5 ∨ j = 6 ∨ j = 7 ∨ j = 8 ∨ j = 9 by omega) with rfl | rfl | rfl | rfl | rfl | rfl | rfl | rfl | rfl | rfl <;> rfl) (Nat.le_of_ble_eq_true rfl) (Nat.le_of_ble_eq_true rfl) dX9_citizen_61 (fun q1 H hP hD hS => ?_)
              refine lv_dup hx hb dX9_citizen_64 rfl ?_
              refine lv_iload hx hb dX9_citizen_65 (lv_at hl 0 rfl) ?_
              refine lv_iload_n hx hb dX9_citizen_67 rfl (lv_at hl 2 rfl) ?_
              refine lv_iload_n hx hb dX9_citizen_68 rfl (lv_at hl 3 rfl) ?_
              refine lv_iload_n hx hb dX9_citizen_69 rfl (lv_at hl 4 rfl) ?_
              refine l_call (W0 := cW ad y x R) (As := [.int n4, .int t, .int w, .int b]) (rest := [.ref q1, .int n4, .ref (ad 8 0)]) ⟨hx, hb, hml, hown, hts⟩ (ctX1_init l D y qs q1 n4 t w b) (cwI 4 hts gX9_citizen_X1_init rfl rfl rfl (hts (.initialized RX1) (by decide +kernel)) (hts (.methodLink RX9 106 yX1_init) (by decide +kernel)) (hts (.instanceMethod yX1_init) (by decide +kernel)) rfl (by decide +kernel) ⟨Nat.le_of_ble_eq_true rfl, Nat.le_of_ble_eq_true rfl⟩) ⟨hE, hN⟩ hK hP hD hS hA rfl hl.1 rfl (Nat.le_of_ble_eq_true rfl) dX9_citizen_70 ⟨Nat.le_of_ble_eq_true rfl, Nat.le_of_ble_eq_true rfl⟩ (fun w1 H locs hw1 hP hD hS => ?_)
              subst hw1
              rw [show n4 = nI nC by rw [en4]; exact hn, cW_cit hR hrf] at hP hD
              have hR2 := cHas_c hR
              have e24 : (up2 ad 24 nC q1) 24 nC = q1 := up2_s
              have hq73 : W p l e (headSpec wsX9_citizen ({ frames := 2, cells := 1, slots := 10, locals := 60 })).room s m ([.ref (ad 0 0), .int t, .int w, .int b] : List Value).toArray below meth c H locs 1 10 (MQ below (va_Qi (fun r u => (¬ okCit9 x t w b → r = -2 ∧ u = (x, ad, R)) ∧ (okCit9 x t w b → (nC = 150 → r = -3 ∧ u = (x, ad, R)) ∧ (nC < 150 → r = nI nC ∧ ∃ q, u = (csCit1 x nC t w b, up2 ad 24 nC q, R ++ [(24, nC)])))) (aEnd D y ad R s.heap.size) A) ([.ref (ad 0 0), .int t, .int w, .int b] : List Value).toArray s 1 10 A) (F0 m 73 ls [.ref ((up2 ad 24 nC q1) 24 nC), .int n4, .ref ((up2 ad 24 nC q1) 8 0)]) := by
                refine cs_ref (ad := (up2 ad 24 nC q1)) (R := (R ++ [(24, nC)])) (x := (cCit x nC t w b)) 8 0 150 24 4 1 nC hx hb hK hP hD hS ((hR2 8 0).mpr Nat.zero_lt_one) (fun _ _ _ => rfl) rfl ((hR2 24 nC).mpr (Nat.lt_succ_self _)) (fun _ _ _ => ⟨_, rfl⟩) rfl (by rw [en4, hn]; exact vp_in_nI hn5 (by omega)) dX9_citizen_73 (fun H locs hP hD hS => ?_)
                rw [show n4.toNatClampNeg = nC by rw [en4, hn]; exact nI_clamp (by omega)] at hP hD
                have hl2 : lv_has ls 5 [(0, .ref ((up2 ad 24 nC q1) 0 0)), (4, .int n4)] := lv_sub hl [1, 0] rfl
                refine lv_aload_n hx hb dX9_citizen_74 rfl (lv_at hl2 0 rfl) ?_
                refine lv_dup hx hb dX9_citizen_75 rfl ?_
                refine cg_X9_citizens (ad := (up2 ad 24 nC q1)) (i := 0) hx hb hts hin9 hown hK hP ((hR2 0 0).mpr Nat.zero_lt_one) (by decide +kernel) dX9_citizen_76 ?_
                refine lv_iconst (v := 1) hx hb dX9_citizen_79 (by decide) ?_
                refine lv_iadd hx hb dX9_citizen_80 ?_
                refine cp_X9_citizens (ad := (up2 ad 24 nC q1)) (i := 0) hx hb hts hin9 hown hK hP hD hS ((hR2 0 0).mpr Nat.zero_lt_one) (by decide +kernel) dX9_citizen_81 (fun H locs hP hD hS => ?_)
                rw [show (cO (cCit x nC t w b) 8 0 nC (some nC)).1 0 0 7 + 1 = nI (nC + 1) by rw [cO_l, show (cCit x nC t w b).1 0 0 7 = nI nC from hn, nI_1]] at hP hD
                refine lv_iload hx hb dX9_citizen_84 (lv_at hl2 1 rfl) ?_
                exact a_reti hx hb hr hlocks hAe hK hP hD hS (Nat.le_refl _) (Nat.le_refl _) rfl dX9_citizen_86 ⟨fun q9 => absurd ⟨b4, g1, c_22, c_30⟩ q9, fun _ => ⟨fun q9 => by omega, fun _ => ⟨en4.trans hn, q1, rfl⟩⟩⟩
              rw [e24] at hq73
              exact hq73
            · have hn5 : nC = 150 := by rw [hn] at c_43; have : ¬ nC < 150 := fun q9 => c_43 ((nI_ltI (b := 150) (by omega) (by omega)).mpr q9); omega
              refine lv_bipush (v := (-3)) hx hb dX9_citizen_46 (by decide) ?_
              exact a_reti hx hb hr hlocks hAe hK hP hD hS (Nat.zero_le _) (Nat.zero_le _) rfl dX9_citizen_48 ⟨fun q9 => absurd ⟨b4, g1, c_22, c_30⟩ q9, fun _ => ⟨fun _ => ⟨rfl, rfl⟩, fun q9 => by omega⟩⟩
          · refine lv_bipush (v := (-2)) hx hb dX9_citizen_33 (by decide) ?_
            exact a_reti hx hb hr hlocks hAe hK hP hD hS (Nat.zero_le _) (Nat.zero_le _) rfl dX9_citizen_35 ⟨fun _ => ⟨rfl, rfl⟩, fun q9 => absurd q9 (by simp [okCit9, c_22, Int32.not_lt.mp c_22, c_30, Int32.not_lt.mp c_30])⟩
      · have g1 : isC 5 w = false := isC_ge (n := 5) (by omega) (Int32.not_lt.mp c_13)
        refine lv_bipush (v := (-2)) hx hb dX9_citizen_16 (by decide) ?_
        exact a_reti hx hb hr hlocks hAe hK hP hD hS (Nat.zero_le _) (Nat.zero_le _) rfl dX9_citizen_18 ⟨fun _ => ⟨rfl, rfl⟩, fun q9 => absurd q9 (by simp [okCit9, g1])⟩
