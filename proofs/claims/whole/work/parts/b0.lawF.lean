theorem law_env {s : State} {args : Array Value} {A : Nat → Prop} (hts : ∀ w ∈ lw_tbl, w.before args s = true) (hgv : (Jvm.Cond.and given_1 narrow_1).before args s = true) (hA : ∀ a : Nat, a < s.heap.size → ¬ A a) : ∃ (D : va_G) (y : Nat → ClassId) (qs : Nat → Nat × Nat) (q qv : Nat), va_K D vwCl (cT y) s ∧ cEnv qs A s s.heap ∧ cNN s ∧ sE wTx q qv A s s.heap ∧ vk_R RX10 128 "age pay fifth tie suit acquit convict water over fine " q s := by
  have hs : ∀ w ∈ fl, w.before args s = true := flat_of_before _ hgv
  have hZ : va_Z "java/lang/String" "COMPACT_STRINGS" "Z" (.int 1) A s s.heap := va_Zof (args := args) (hts (.laysStatic "java/lang/String" "COMPACT_STRINGS" "Z") (lt2 (li 114 rfl))) (hts (.initialized "java/lang/String") (lt1 (li 12 rfl))) (va_eqt (hs (.eq (.static "java/lang/String" "COMPACT_STRINGS" "Z") (.int 1)) (li 4 rfl))) hA
  have hq : va_Zq "jdk/internal/util/Preconditions" "SIOOBE_FORMATTER" "Ljava/util/function/BiFunction;" A s s.heap := va_Zqof (args := args) (hts (.laysStatic "jdk/internal/util/Preconditions" "SIOOBE_FORMATTER" "Ljava/util/function/BiFunction;") (lt2 (li 130 rfl))) (hts (.initialized "jdk/internal/util/Preconditions") (lt1 (li 14 rfl))) (hs (.isRef (.static "jdk/internal/util/Preconditions" "SIOOBE_FORMATTER" "Ljava/util/function/BiFunction;")) (li 5 rfl)) hA
  have hx9 : ∀ j : Nat, ∃ z : Nat × Nat, j < 10 → sE (cTx j) z.1 z.2 A s s.heap ∧ vk_R RX5 (cIx j) (cSt j) z.1 s := by
    intro j
    by_cases hj : j < 10
    · have hj9 : j = 0 ∨ j = 1 ∨ j = 2 ∨ j = 3 ∨ j = 4 ∨ j = 5 ∨ j = 6 ∨ j = 7 ∨ j = 8 ∨ j = 9 := by omega
      rcases hj9 with rfl | rfl | rfl | rfl | rfl | rfl | rfl | rfl | rfl | rfl
      · obtain ⟨q, qv, h1, h2⟩ := sE_of hs RX5 60 9 (cTx 0) (by decide) rfl rfl rfl rfl (by decide +kernel) hZ hq hA
        exact ⟨(q, qv), fun _ => ⟨h1, vk_R.of (hts (.stringRef RX5 60 "age") (lt2 (li 100 rfl))) h2⟩⟩
      · obtain ⟨q, qv, h1, h2⟩ := sE_of hs RX5 73 16 (cTx 1) (by decide) rfl rfl rfl rfl (by decide +kernel) hZ hq hA
        exact ⟨(q, qv), fun _ => ⟨h1, vk_R.of (hts (.stringRef RX5 73 "pay") (lt2 (li 169 rfl))) h2⟩⟩
      · obtain ⟨q, qv, h1, h2⟩ := sE_of hs RX5 75 24 (cTx 2) (by decide) rfl rfl rfl rfl (by decide +kernel) hZ hq hA
        exact ⟨(q, qv), fun _ => ⟨h1, vk_R.of (hts (.stringRef RX5 75 "fifth") (lt2 (li 170 rfl))) h2⟩⟩
      · obtain ⟨q, qv, h1, h2⟩ := sE_of hs RX5 77 35 (cTx 3) (by decide) rfl rfl rfl rfl (by decide +kernel) hZ hq hA
        exact ⟨(q, qv), fun _ => ⟨h1, vk_R.of (hts (.stringRef RX5 77 "tie") (lt2 (li 171 rfl))) h2⟩⟩
      · obtain ⟨q, qv, h1, h2⟩ := sE_of hs RX5 82 75 (cTx 4) (by decide) rfl rfl rfl rfl (by decide +kernel) hZ hq hA
        exact ⟨(q, qv), fun _ => ⟨h1, vk_R.of (hts (.stringRef RX5 82 "suit") (lt2 (li 178 rfl))) h2⟩⟩
      · obtain ⟨q, qv, h1, h2⟩ := sE_of hs RX5 116 60 (cTx 5) (by decide) rfl rfl rfl rfl (by decide +kernel) hZ hq hA
        exact ⟨(q, qv), fun _ => ⟨h1, vk_R.of (hts (.stringRef RX5 116 "acquit") (lt2 (li 177 rfl))) h2⟩⟩
      · obtain ⟨q, qv, h1, h2⟩ := sE_of hs RX5 114 45 (cTx 6) (by decide) rfl rfl rfl rfl (by decide +kernel) hZ hq hA
        exact ⟨(q, qv), fun _ => ⟨h1, vk_R.of (hts (.stringRef RX5 114 "convict") (lt2 (li 176 rfl))) h2⟩⟩
      · obtain ⟨q, qv, h1, h2⟩ := sE_of hs RX5 94 89 (cTx 7) (by decide) rfl rfl rfl rfl (by decide +kernel) hZ hq hA
        exact ⟨(q, qv), fun _ => ⟨h1, vk_R.of (hts (.stringRef RX5 94 "water") (lt2 (li 191 rfl))) h2⟩⟩
      · obtain ⟨q, qv, h1, h2⟩ := sE_of hs RX5 104 105 (cTx 8) (by decide) rfl rfl rfl rfl (by decide +kernel) hZ hq hA
        exact ⟨(q, qv), fun _ => ⟨h1, vk_R.of (hts (.stringRef RX5 104 "over") (lt2 (li 196 rfl))) h2⟩⟩
      · obtain ⟨q, qv, h1, h2⟩ := sE_of hs RX5 106 121 (cTx 9) (by decide) rfl rfl rfl rfl (by decide +kernel) hZ hq hA
        exact ⟨(q, qv), fun _ => ⟨h1, vk_R.of (hts (.stringRef RX5 106 "fine") (lt2 (li 197 rfl))) h2⟩⟩
    · exact ⟨(0, 0), fun h => absurd h hj⟩
  obtain ⟨qs, hqs⟩ := Classical.axiomOfChoice hx9
  obtain ⟨q, qv, hw1, hw2⟩ := sE_of hs RX10 128 138 wTx (by decide) rfl rfl rfl rfl (by decide +kernel) hZ hq hA
  have hAOL : cAOL s := cAOL.of (hts (.arrayOver (.array .long)) (lt1 (li 169 rfl)))
  obtain ⟨y0, a0, r0⟩ := arr_of (hts (.arrayClass .byte) (lt1 (li 44 rfl)))
  obtain ⟨y1, a1, r1⟩ := arr_of (hts (.arrayClass .int) (lt1 (li 72 rfl)))
  obtain ⟨y2, a2, r2⟩ := arr_of (hts (.arrayClass .boolean) (lt1 (li 107 rfl)))
  obtain ⟨y3, a3, r3⟩ := arr_of (hts (.arrayClass .long) (lt1 (li 174 rfl)))
  obtain ⟨y4, a4, r4⟩ := arr_oo (hts (.arrayOver (.object RX1)) (lt1 (li 129 rfl)))
  obtain ⟨y5, a5, r5⟩ := arr_oo (hts (.arrayOver (.object RX6)) (lt1 (li 115 rfl)))
  obtain ⟨y6, a6, r6⟩ := arr_oo (hts (.arrayOver (.object RX2)) (lt1 (li 176 rfl)))
  obtain ⟨y7, a7, r7⟩ := arr_ol hAOL
  obtain ⟨c0, i0, k0⟩ := u_known (C := RX0) (T := TX0) (N := 1) (n := 1) hts inX0 (hts (.instantiable RX0 1) (lt1 (li 163 rfl)))
  obtain ⟨c1, i1, k1⟩ := u_known (C := RX1) (T := TX1) (N := 10) (n := 10) hts inX1 (hts (.instantiable RX1 10) (lt2 (li 235 rfl)))
  obtain ⟨c2, i2, k2⟩ := u_known (C := RX2) (T := TX2) (N := 4) (n := 4) hts inX2 (hts (.instantiable RX2 4) (lt1 (li 177 rfl)))
  obtain ⟨c3, i3, k3⟩ := u_known (C := RX3) (T := TX3) (N := 7) (n := 7) hts inX3 (hts (.instantiable RX3 7) (lt1 (li 131 rfl)))
  obtain ⟨c4, i4, k4⟩ := u_known (C := RX4) (T := TX4) (N := 3) (n := 3) hts inX4 (hts (.instantiable RX4 3) (lt1 (li 109 rfl)))
  obtain ⟨c5, i5, k5⟩ := u_known (C := RX5) (T := TX5) (N := 10) (n := 10) hts inX5 (hts (.instantiable RX5 10) (lt1 (li 46 rfl)))
  obtain ⟨c6, i6, k6⟩ := u_known (C := RX6) (T := TX6) (N := 2) (n := 2) hts inX6 (hts (.instantiable RX6 2) (lt1 (li 52 rfl)))
  obtain ⟨c7, i7, k7⟩ := u_known (C := RX7) (T := TX7) (N := 16) (n := 16) hts inX7 (hts (.instantiable RX7 16) (lt1 (li 183 rfl)))
  obtain ⟨c8, i8, k8⟩ := u_known (C := RX8) (T := TX8) (N := 2) (n := 2) hts inX8 (hts (.instantiable RX8 2) (lt1 (li 29 rfl)))
  obtain ⟨c9, i9, k9⟩ := u_known (C := RX9) (T := TX9) (N := 11) (n := 11) hts inX9 (hts (.instantiable RX9 11) (lt1 (li 21 rfl)))
  obtain ⟨c10, i10, k10⟩ := u_known (C := RX10) (T := TX10) (N := 50) (n := 50) hts inX10 (hts (.instantiable RX10 50) (lt4 (li 99 rfl)))
  refine ⟨(fun k => match k with | 0 => c0 | 1 => c1 | 2 => c2 | 3 => c3 | 4 => c4 | 5 => c5 | 6 => c6 | 7 => c7 | 8 => c8 | 9 => c9 | _ => c10, fun k => match k with | 0 => i0 | 1 => i1 | 2 => i2 | 3 => i3 | 4 => i4 | 5 => i5 | 6 => i6 | 7 => i7 | 8 => i8 | 9 => i9 | _ => i10), fun k => match k with | 0 => y0 | 1 => y1 | 2 => y2 | 3 => y3 | 4 => y4 | 5 => y5 | 6 => y6 | _ => y7, qs, q, qv, ⟨fun k z hk => ?_, fun k z hk => ?_⟩, ⟨⟨va_Nw.of rfl (hts (.methodLinkNest RX3 70 yX9_waysToChoose "LotMachine") (lt3 (li 150 rfl))), va_Nw.of rfl (hts (.methodLinkNest RX0 26 yX9_waysToChoose "LotMachine") (lt3 (li 198 rfl))), va_Nw.of rfl (hts (.methodLinkNest RX3 56 yX9_isTribe "LotMachine") (lt3 (li 113 rfl)))⟩, fun j hj => hqs j hj⟩, ⟨⟨va_Nw.of rfl (hts (.methodLinkNest RX9 9 yX8_init "LotMachine") (lt1 (li 30 rfl))), va_Nw.of rfl (hts (.methodLinkNest RX9 27 yX4_init "LotMachine") (lt1 (li 110 rfl))), va_Nw.of rfl (hts (.methodLinkNest RX9 40 yX3_init "LotMachine") (lt1 (li 132 rfl))), va_Nw.of rfl (hts (.methodLinkNest RX9 47 yX0_init "LotMachine") (lt1 (li 164 rfl))), va_Nw.of rfl (hts (.methodLinkNest RX9 58 yX2_init "LotMachine") (lt1 (li 178 rfl))), va_Nw.of rfl (hts (.methodLinkNest RX2 17 yX7_init "LotMachine") (lt1 (li 184 rfl)))⟩, va_AO.of (hts (.arrayOver (.object RX1)) (lt1 (li 129 rfl))), va_AO.of (hts (.arrayOver (.object RX6)) (lt1 (li 115 rfl))), va_AO.of (hts (.arrayOver (.object RX2)) (lt1 (li 176 rfl))), hAOL⟩, hw1, vk_R.of (hts (.stringRef RX10 128 "age pay fifth tie suit acquit convict water over fine ") (lt5 (li 53 rfl))) hw2⟩
  · have h11 : k < 11 := (List.getElem?_eq_some_iff.mp hk).1
    have h9 : k = 0 ∨ k = 1 ∨ k = 2 ∨ k = 3 ∨ k = 4 ∨ k = 5 ∨ k = 6 ∨ k = 7 ∨ k = 8 ∨ k = 9 ∨ k = 10 := by omega
    rcases h9 with rfl | rfl | rfl | rfl | rfl | rfl | rfl | rfl | rfl | rfl | rfl
    · cases hk; exact k0
    · cases hk; exact k1
    · cases hk; exact k2
    · cases hk; exact k3
    · cases hk; exact k4
    · cases hk; exact k5
    · cases hk; exact k6
    · cases hk; exact k7
    · cases hk; exact k8
    · cases hk; exact k9
    · cases hk; exact k10
  · have h8 : k < 8 := (List.getElem?_eq_some_iff.mp hk).1
    have h9 : k = 0 ∨ k = 1 ∨ k = 2 ∨ k = 3 ∨ k = 4 ∨ k = 5 ∨ k = 6 ∨ k = 7 := by omega
    rcases h9 with rfl | rfl | rfl | rfl | rfl | rfl | rfl | rfl
    · cases hk; exact ⟨a0, r0⟩
    · cases hk; exact ⟨a1, r1⟩
    · cases hk; exact ⟨a2, r2⟩
    · cases hk; exact ⟨a3, r3⟩
    · cases hk; exact ⟨a4, r4⟩
    · cases hk; exact ⟨a5, r5⟩
    · cases hk; exact ⟨a6, r6⟩
    · cases hk; exact ⟨a7, r7⟩
def f10 : List Value := [.null, .int 0, .int 0, .int 0, .int 0, .int 0, .int 0, .int 0, .int 0, .int 0, .null, .null, .int 0, .null, .int 0, .int 0, .null, .null, .null, .null, .null, .null, .null, .null, .null, .null, .null, .int 0, .int 0, .null, .null, .null, .null, .null, .null, .null, .null, .null, .null, .null, .null, .null, .null, .null, .null, .null, .null, .null, .int 0, .int 0]
section LS
variable {p : Program} {l : Launch} {e : Env} {Rm : Room} {s : State} {m : MethodId} {args : Array Value} {below : List Frame} {meth : Method} {c : Code} {H : Heap} {locs : List Loc} {cells slots : Nat} {Q : State → Prop}
variable {cc : ByteArray} {pc : Nat} {ls : Array Slot} {rest st : List Value} {D : va_G} {A : Nat → Prop} {y : Nat → ClassId} {Ts : List Cond} {own : String} {index : Nat} {bytes : ByteArray} {maxL nL : Nat} {h : Nat} {ad : Nat → Nat → Nat} {x : cS} {R : List (Nat × Nat)}
theorem wX_of {a : Nat → Nat} {v : mS} (hP : va_P D vwCl (cW ad y x R ++ mW h a y v) H) (hD : va_D A (cW ad y x R ++ mW h a y v)) : wX D y A h a ad x R v H := by
  have l1 : ∀ (k : Nat) (q : Nat × va_E), (cW ad y x R)[k]? = some q → (cW ad y x R ++ mW h a y v)[k]? = some q := fun k q hk => by rw [List.getElem?_append_left (List.getElem?_eq_some_iff.mp hk).1]; exact hk
  have l2 : ∀ (k : Nat) (q : Nat × va_E), (mW h a y v)[k]? = some q → (cW ad y x R ++ mW h a y v)[(cW ad y x R).length + k]? = some q := fun k q hk => by rw [List.getElem?_append_right (by omega), show (cW ad y x R).length + k - (cW ad y x R).length = k by omega]; exact hk
  refine ⟨fun k q hk => hP k q (l1 k q hk), ⟨fun i j p q hi hj e => hD.1 i j p q (l1 i p hi) (l1 j q hj) e, fun k q hk => hD.2 k q (l1 k q hk)⟩, fun k q hk => hP _ q (l2 k q hk), ⟨fun i j p q hi hj e => ?_, fun k q hk => hD.2 _ q (l2 k q hk)⟩, fun q hq hm => ?_⟩
  · have := hD.1 _ _ p q (l2 i p hi) (l2 j q hj) e
    omega
  · obtain ⟨k, e1, hk⟩ := cW_of y x hq
    obtain ⟨k2, e2, hk2⟩ := mW_of (y := y) v hm
    have := hD.1 _ _ _ _ (l1 k _ hk) (l2 k2 _ hk2) rfl
    have := (List.getElem?_eq_some_iff.mp hk).1
    omega
theorem m_make (S : CallFix p m c cc nL s args Ts own) (cw : CallB Rm s args own index yX10_init bytes maxL none wsX10_init ({ frames := 1, cells := 34, slots := 6349, locals := 21 }) 34 6349 0 ∧ yX10_init.name = "<init>" ∧ (Cond.instanceMethod yX10_init).before args s = true) (hK : va_K D vwCl (mT y) s) (hP : va_P D vwCl (cW ad y x R ++ [(h, .inr (10, f10))]) H) (hD : va_D A (cW ad y x R ++ [(h, .inr (10, f10))])) (hS : va_S A s.heap H locs) (hA : ∀ q, s.heap.size ≤ q → A q) (hsz : ls.size = nL) (hst : st = .ref h :: rest) (hW : (rest.map fun v => v.category).sum ≤ 8) (hdg : decode cc pc = .ok (.invokespecial index, 3)) (hf : cells + 34 ≤ Rm.cells ∧ slots + 6349 ≤ Rm.slots)
    (kk : ∀ (a : Nat → Nat) (v : mS) (H1 : Heap) (locs1 : List Loc), Rel 0 0 xI v → wX D y A h a ad x R v H1 → va_S A s.heap H1 locs1 → W p l e Rm s m args below meth c H1 locs1 (cells + 34) (slots + 6349) Q (F0 m (pc + 3) ls rest)) : W p l e Rm s m args below meth c H locs cells slots Q (F0 m pc ls st) := by
  have hlast : (cW ad y x R ++ [(h, .inr (10, f10))])[(cW ad y x R).length]? = some (h, .inr (10, f10)) := by rw [List.getElem?_append_right (Nat.le_refl _), Nat.sub_self]; rfl
  have one : ∀ (k : Nat) (q : Nat × va_E), ([(h, .inr (10, f10))] : va_W)[k]? = some q → q = (h, .inr (10, f10)) := fun k q hk => by
    have h1 : k < 1 := (List.getElem?_eq_some_iff.mp hk).1
    rw [show k = 0 by omega] at hk
    exact (Option.some.inj hk).symm
  have eA : ∀ q, va_A [(h, .inr (10, f10))] H.size q ↔ lA h H.size q := fun q => by
    refine ⟨fun h9 => ?_, fun h9 => ?_⟩
    · rcases h9 with ⟨k, e, hk⟩ | h9
      · exact Or.inl (congrArg Prod.fst (one k _ hk))
      · exact Or.inr h9
    · rcases h9 with rfl | h9
      · exact Or.inl ⟨0, _, rfl⟩
      · exact Or.inr h9
  have hFc : ∀ q, va_A [(h, .inr (10, f10))] H.size q → A q := fun q hq => lA_sub hP hD hS hA q ((eA q).mp hq)
  have hPc : va_P D vwCl [(h, .inr (10, f10))] H := fun k q hk => by rw [one k q hk]; exact hP _ _ hlast
  refine va_callv (va_runI (As := []) (rest := rest) S (ctX10_init l D y h H.size) cw ⟨fun a U g mk q => by obtain ⟨q0, q1, qP, qK, qD⟩ := q; exact ⟨q0, q1, qP, va_K.moved (u := U) (U := U.calling g mk a) (Vm.Alike.refl U.vm) qK, qD⟩, fun U hU hW => ⟨rfl, by rw [hU], by rw [hU]; exact hPc, va_K.moved hW.alike hK, one_D trivial⟩⟩ rfl rfl hsz hst (lv_room hW) hdg hf) hS (fun q _ hq => hFc q hq) hFc (fun u t H1 locs1 ht hvm hw hB hz hk hS1 => ?_)
  obtain ⟨hP1, hK1, hD1⟩ := hB
  rw [ht] at hP1
  obtain ⟨j1, j2⟩ := l_join hP hD hS hA hP1 (hD1.weaken (fun k q _ hq => (eA q.1).mp hq)) (fun q hq hn => hk q hq (fun z => hn ((eA q).mp z)))
  exact kk u.1 u.2 H1 locs1 (rel_0 hw.1 hw.2.1 hw.2.2) (wX_of j1 j2) hS1
end LS
set_option maxHeartbeats 4000000 in
set_option maxRecDepth 20000 in
theorem whole_start {p : Program} {e : Env} {s : State} {m : MethodId} {below : List Frame} {meth : Method} {c : Code} (l : Launch) {b L : Nat} {xs : Nat → Int32} (hL : L ≤ 3072) (C0 : lw_At p s m meth c b L xs) : W p l e room_1 s m #[Value.ref b] below meth c s.heap [] 0 0 (lw_Z below #[Value.ref b] s) (entryFrame m ([Value.ref b] : List Value).toArray 4) := by
  obtain ⟨hx, hb, hr, hml, hown, hts, hX, hbl, hlocks, hgv⟩ := id C0
  have hown : s.vm.findClass RL = some m.cls := hown
  obtain ⟨A, hAe⟩ : ∃ A : Nat → Prop, A = fun q => s.heap.size ≤ q := ⟨_, rfl⟩
  have hA : ∀ q : Nat, s.heap.size ≤ q → A q := fun q h => by rw [hAe]; exact h
  have hA2 : ∀ q : Nat, A q → s.heap.size ≤ q := fun q h => by rw [hAe] at h; exact h
  have hbA : ¬ A b := fun h => absurd (hA2 b h) (Nat.not_le.mpr hbl)
  obtain ⟨D, y, qs, q, qv, hK, hE, hNN, hSE, hRR⟩ := law_env (A := A) hts hgv (fun a ha h => absurd (hA2 a h) (Nat.not_le.mpr ha))
  have C : lawC p s m c b L xs D y A qs q qv := ⟨hx, hb, hml, hown, hts, hX, hbl, hbA, hK, hE, hNN, hSE, hRR, hA, hL⟩
  have hKm : va_K D vwCl (mT y) s := hK.sub [0, 1, 2, 3] rfl
  have hS : va_S A s.heap s.heap [] := va_S.rf
  have hP : va_P D vwCl [] s.heap := fun k q h => by simp at h
  have hD : va_D A [] := ⟨fun i j p q h => by simp at h, fun k q h => by simp at h⟩
  have hl := lv_entry ([.ref b]) (n := 4) (Nat.le_of_ble_eq_true rfl)
  rw [lg_entry_eq]
  generalize (lg_sl ([.ref b]) ++ List.replicate (4 - (lg_sl ([.ref b])).length) Slot.unset).toArray = ls at hl ⊢
  have hl : lv_has ls 4 [(0, .ref b)] := hl
  refine va_new (ci := 9) (fs := [.null, .null, .null, .null, .null, .null, .null, .int 0, .int 0, .int 0, .int 0]) (C := RX9) (T := TX9) (N := 11) hx hb hts inX9 tyX9 tyX9_ok hown (hts (.classLink RL 7 RX9) (inR1 _ (li 0 rfl))) (hts (.instantiable RX9 11) (inR1 _ (li 1 rfl))) (hts (.initialized RX9) (inR1 _ (li 2 rfl))) hK hP hD hS hA rfl (fun j hj => by rcases (show j = 0 ∨ j = 1 ∨ j = 2 ∨ j = 3 ∨ j = 4 ∨ j = 5 ∨ j = 6 ∨ j = 7 ∨ j = 8 ∨ j = 9 ∨ j = 10 by omega) with rfl | rfl | rfl | rfl | rfl | rfl | rfl | rfl | rfl | rfl | rfl <;> rfl) (Nat.le_of_ble_eq_true rfl) (Nat.le_of_ble_eq_true rfl) dL_law_0 (fun h9 H hP hD hS => ?_)
  refine W.widen (k := 1) (n := 11) (by omega) (by omega) ?_
  refine lv_dup hx hb dL_law_3 rfl ?_
  refine l_call (W0 := []) (As := []) (rest := [.ref h9]) ⟨hx, hb, hml, hown, hts⟩ (ctX9_init l D y qs h9) (cwI 0 hts gL_X9_init rfl rfl rfl (hts (.initialized RX9) (inR1 _ (li 2 rfl))) (hts (.methodLink RL 9 yX9_init) (inR1 _ (li 7 rfl))) (hts (.instanceMethod yX9_init) (inR1 _ (li 8 rfl))) rfl (by decide +kernel) ⟨Nat.le_of_ble_eq_true rfl, Nat.le_of_ble_eq_true rfl⟩) ⟨hE, hNN⟩ hK hP hD hS hA rfl hl.1 rfl (Nat.le_of_ble_eq_true rfl) dL_law_4 ⟨Nat.le_of_ble_eq_true rfl, Nat.le_of_ble_eq_true rfl⟩ (fun w1 H locs hw1 hP hD hS => ?_)
  obtain ⟨ad, e0, rfl⟩ := hw1
  have hP : va_P D vwCl (cW ad y xI RI) H := hP
  have hD : va_D A (cW ad y xI RI) := hD
  refine W.widen (k := 64) (n := 2971) (by omega) (by omega) ?_
  refine lv_astore_n (lv' := [(1, .ref h9), (0, .ref b)]) hx hb dL_law_7 rfl hl (by decide) rfl (fun ls hl => ?_)
  refine va_new (ci := 10) (fs := f10) (C := RX10) (T := TX10) (N := 50) hx hb hts inX10 tyX10 tyX10_ok hown (hts (.classLink RL 10 RX10) (inR1 _ (li 3 rfl))) (hts (.instantiable RX10 50) (inR1 _ (li 4 rfl))) (hts (.initialized RX10) (inR1 _ (li 5 rfl))) hK hP hD hS hA rfl (fun j hj => by rcases (show j = 0 ∨ j = 1 ∨ j = 2 ∨ j = 3 ∨ j = 4 ∨ j = 5 ∨ j = 6 ∨ j = 7 ∨ j = 8 ∨ j = 9 ∨ j = 10 ∨ j = 11 ∨ j = 12 ∨ j = 13 ∨ j = 14 ∨ j = 15 ∨ j = 16 ∨ j = 17 ∨ j = 18 ∨ j = 19 ∨ j = 20 ∨ j = 21 ∨ j = 22 ∨ j = 23 ∨ j = 24 ∨ j = 25 ∨ j = 26 ∨ j = 27 ∨ j = 28 ∨ j = 29 ∨ j = 30 ∨ j = 31 ∨ j = 32 ∨ j = 33 ∨ j = 34 ∨ j = 35 ∨ j = 36 ∨ j = 37 ∨ j = 38 ∨ j = 39 ∨ j = 40 ∨ j = 41 ∨ j = 42 ∨ j = 43 ∨ j = 44 ∨ j = 45 ∨ j = 46 ∨ j = 47 ∨ j = 48 ∨ j = 49 by omega) with rfl | rfl | rfl | rfl | rfl | rfl | rfl | rfl | rfl | rfl | rfl | rfl | rfl | rfl | rfl | rfl | rfl | rfl | rfl | rfl | rfl | rfl | rfl | rfl | rfl | rfl | rfl | rfl | rfl | rfl | rfl | rfl | rfl | rfl | rfl | rfl | rfl | rfl | rfl | rfl | rfl | rfl | rfl | rfl | rfl | rfl | rfl | rfl | rfl | rfl <;> rfl) (Nat.le_of_ble_eq_true rfl) (Nat.le_of_ble_eq_true rfl) dL_law_8 (fun h H hP hD hS => ?_)
  refine W.widen (k := 65) (n := 3021) (by omega) (by omega) ?_
  refine lv_dup hx hb dL_law_11 rfl ?_
  refine m_make (rest := [.ref h]) ⟨hx, hb, hml, hown, hts⟩ (cwI 0 hts gL_X10_init rfl rfl rfl (hts (.initialized RX10) (inR1 _ (li 5 rfl))) (hts (.methodLink RL 12 yX10_init) (inR5 _ (li 11 rfl))) (hts (.instanceMethod yX10_init) (inR5 _ (li 12 rfl))) rfl (by decide +kernel) ⟨Nat.le_of_ble_eq_true rfl, Nat.le_of_ble_eq_true rfl⟩) hKm hP hD hS hA hl.1 rfl (Nat.le_of_ble_eq_true rfl) dL_law_12 ⟨Nat.le_of_ble_eq_true rfl, Nat.le_of_ble_eq_true rfl⟩ (fun a v H locs hrel hw hS => ?_)
  refine lv_astore_n (lv' := [(2, .ref h), (1, .ref h9), (0, .ref b)]) hx hb dL_law_15 rfl hl (by decide) rfl (fun ls hl => ?_)
  refine lv_iconst (v := 0) hx hb dL_law_16 (by decide) ?_
  refine lv_istore_n (lv' := [(3, .int 0), (2, .ref h), (1, .ref h9), (0, .ref b)]) hx hb dL_law_17 rfl hl (by decide) rfl (fun ls hl => ?_)
  refine W.widen (k := 100 + 2 * 0) (n := 9400 + 53 * 0) (by omega) (by omega) ?_
  exact law_loop C hA2 hr hlocks (L + 1) 0 (Nat.zero_le _) (by omega) 0 rfl H locs ls ⟨ad, xI, RI, v, 0, 0, e0, has_0, hrel, hw, hS⟩ (lv_sub hl [3, 2, 1, 0] rfl)
