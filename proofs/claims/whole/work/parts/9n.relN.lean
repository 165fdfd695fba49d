/-! laws: a text laid down; the whole call -/
section REN
variable {n T z : Nat} {x x' : cS} {v v' : mS}
theorem lwC_f (T : Nat) (v : mS) {s : Nat} (hs : ¬ s = 10) : ∀ k, (lwC T v k).2.1 s = v.2.1 s
  | 0 => rfl
  | k + 1 => by rw [lwC, mrU_f _ _ _ _ hs]; exact lwC_f T v hs k
theorem lwC_2 (T : Nat) (v : mS) : ∀ k, (lwC T v k).2.2 = v.2.2
  | 0 => rfl
  | k + 1 => lwC_2 T v k
theorem lwC_r (T : Nat) (v : mS) (hT : T < 15) : ∀ k, k ≤ 28 → ∀ i, (lwC T v k).2.1 10 i = if 28 * T ≤ i ∧ i < 28 * T + k then v.2.1 10 (420 + (i - 28 * T)) else v.2.1 10 i
  | 0, _, i => by rw [if_neg (by omega)]; rfl
  | k + 1, hk, i => by
    have ih := lwC_r T v hT k (by omega)
    rw [lwC, mrU_r, ih, ih, if_neg (show ¬ (28 * T ≤ 420 + k ∧ 420 + k < 28 * T + k) by omega)]
    by_cases e : i = 28 * T + k
    · rw [if_pos ⟨rfl, e⟩, if_pos (by omega), e, show 28 * T + k - 28 * T = k by omega]
    · rw [if_neg (fun q => e q.2)]
      by_cases e2 : 28 * T ≤ i ∧ i < 28 * T + k
      · rw [if_pos e2, if_pos (by omega)]
      · rw [if_neg e2, if_neg (by omega)]
theorem lwv_cg {f g : Nat → Int32} (tx : Int32) {w : Nat} (h : ∀ i, i < 28 → f i = g i) : lwv f tx w = lwv g tx w := by
  unfold lwv
  repeat' split
  all_goals first | rfl | exact h _ (by omega)
theorem cEn_r (x : cS) (T : Nat) (day : Int32) (a b d : Nat) : (cEn x T day).1 a b d = if a = 6 ∧ b = 0 ∧ d = 2 then nI (T + 1) else if a = 26 ∧ b = T + 2 ∧ d = 50 then nI T else if a = 25 ∧ b = T + 2 ∧ d = 1 then day else if a = 26 ∧ b = T + 2 ∧ d < 51 then (cTxt x (T + 2)).1 26 0 d else (cTxt x (T + 2)).1 a b d := rfl
theorem cEn_2 (x : cS) (T : Nat) (day : Int32) (a b d : Nat) : (cEn x T day).2.2 a b d = if a = 7 ∧ b = 0 ∧ d = T then some (T + 2) else x.2.2 a b d := rfl
theorem cTxt_r (x : cS) (i a b d : Nat) : (cTxt x i).1 a b d = if a = 25 ∧ b = i then -1 else if a = 26 ∧ b = i then fPl d else x.1 a b d := rfl
theorem rel_enactU (h : Rel n T x v) (hT : T < 15) {day : Int32} (hday : nn day 20000) (hdr : ∀ w, w < 51 → x.1 26 0 w = lwv (fun i => v.2.1 10 (420 + i)) (-1) w) (hlk : ∀ i, i < 28 → lok i (v.2.1 10 (420 + i))) {V : mS} (hv : ∀ s, s ≠ 10 → s ≠ 11 → V.2.1 s = v.2.1 s) (hv1 : ∀ i, i ≠ 12 → V.1 i = v.1 i) (hv12 : V.1 12 = nI (T + 1)) (hv2 : V.2.2 = v.2.2) (h11 : ∀ j, V.2.1 11 j = if j = T then day else v.2.1 11 j) (h10 : ∀ i, V.2.1 10 i = if 28 * T ≤ i ∧ i < 28 * T + 28 then v.2.1 10 (420 + (i - 28 * T)) else v.2.1 10 i) {X : cS} (Xf : ∀ a b c, a ≠ 6 → a ≠ 25 → a ≠ 26 → X.1 a b c = x.1 a b c) (X2 : ∀ a b c, a ≠ 7 → X.2.2 a b c = x.2.2 a b c) (X6 : X.1 6 0 2 = nI (T + 1)) (X25 : ∀ b, ¬ b = T + 2 → ∀ d, X.1 25 b d = x.1 25 b d) (X26 : ∀ b, ¬ b = T + 2 → ∀ d, X.1 26 b d = x.1 26 b d) (X25n : X.1 25 (T + 2) 1 = day) (X26n : ∀ d, d < 51 → X.1 26 (T + 2) d = if d = 50 then nI T else x.1 26 0 d) (X7 : ∀ a b d, X.2.2 a b d = if a = 7 ∧ b = 0 ∧ d = T then some (T + 2) else x.2.2 a b d) : Rel n (T + 1) X V := by
  have v16 := hv 16 (by decide) (by decide)
  have v17 := hv 17 (by decide) (by decide)
  have v18 := hv 18 (by decide) (by decide)
  have v19 := hv 19 (by decide) (by decide)
  have v20 := hv 20 (by decide) (by decide)
  have v21 := hv 21 (by decide) (by decide)
  have v22 := hv 22 (by decide) (by decide)
  have v23 := hv 23 (by decide) (by decide)
  have v24 := hv 24 (by decide) (by decide)
  have v25 := hv 25 (by decide) (by decide)
  have v26 := hv 26 (by decide) (by decide)
  have eC : mCame V = mCame v := by funext i; rw [mCame, mCame, v22]
  have eP : mColP V = mColP v := by funext t w i; rw [mColP, mColP, v16, v17, v22]
  have eA : mAtP V = mAtP v := by funext t w r i; rw [mAtP, mAtP, v16, v17, v22]
  refine ⟨?_, ?_, ?_, ⟨fun d hd => ?_, fun d hd1 hd2 => ?_, ?_⟩, ?_, ?_, ?_, fun k hk => ?_, RX_ext2 h.rx (hv1 28 (by decide)) (fun r hr => hv r (by omega) (by omega)), ?_⟩
  · have := h.rs
    unfold RS at this ⊢
    simp only [fun b c => Xf 0 b c (by decide) (by decide) (by decide), fun b c => Xf 3 b c (by decide) (by decide) (by decide), hv1 15 (by decide), hv1 14 (by decide), hv1 48 (by decide), hv1 49 (by decide), hv1 8 (by decide), hv1 9 (by decide)]
    exact this
  · have := h.rt
    unfold RT at this ⊢
    simp only [fun b c => Xf 1 b c (by decide) (by decide) (by decide), fun b c => Xf 2 b c (by decide) (by decide) (by decide), hv1 1 (by decide), hv 0 (by decide) (by decide)]
    exact this
  · obtain ⟨q1, q2, q3, q4, q5, q6⟩ := h.rl
    refine ⟨X6, hv12, by omega, fun j hj => ?_, by rw [X25 1 (by omega)]; exact q5, fun w hw => by rw [X26 1 (by omega)]; exact q6 w hw⟩
    by_cases hjT : j = T
    · subst hjT
      have e10 : ∀ i, i < 28 → V.2.1 10 (28 * j + i) = v.2.1 10 (420 + i) := fun i hi => by rw [h10, if_pos (by omega), show 28 * j + i - 28 * j = i by omega]
      refine ⟨by rw [X7, if_pos ⟨rfl, rfl, rfl⟩], by rw [X25n, h11, if_pos rfl], by rw [h11, if_pos rfl]; exact hday, fun w hw => ?_, fun i hi => by rw [e10 i hi]; exact hlk i hi⟩
      rw [X26n w hw, lwv_cg _ e10]
      by_cases e : w = 50
      · rw [if_pos e, e]; rfl
      · rw [if_neg e, hdr w hw]
        unfold lwv
        simp only [e, if_false]
    · obtain ⟨r1, r2, r3, r4, r5⟩ := q4 j (by omega)
      have e10 : ∀ i, i < 28 → V.2.1 10 (28 * j + i) = v.2.1 10 (28 * j + i) := fun i hi => by rw [h10, if_neg (by omega)]
      refine ⟨by rw [X7, if_neg (by omega)]; exact r1, by rw [X25 _ (by omega), h11, if_neg hjT]; exact r2, by rw [h11, if_neg hjT]; exact r3, fun w hw => by rw [X26 _ (by omega), lwv_cg _ e10]; exact r4 w hw, fun i hi => by rw [e10 i hi]; exact r5 i hi⟩
  · exact RC1_ext (h.rc.1 d hd) (X2 8 0 d (by decide)) (fun s => Xf 24 d s (by decide) (by decide) (by decide)) (fun r a b => by rw [hv r (by omega) (by omega)])
  · have := h.rc.2.1 d hd1 hd2
    rw [v19, v20, v21, v23]
    exact this
  · intro κ i j c hq
    rw [X7] at hq
    by_cases h1 : κ = 7 ∧ i = 0 ∧ j = T
    · rw [if_pos h1] at hq
      have : T + 2 = c := Option.some.inj hq
      exact ⟨fun _ => by omega, fun q => absurd h1.1 q⟩
    · rw [if_neg h1] at hq
      have := h.rc.2.2 κ i j c hq
      exact ⟨fun q => by have := this.1 q; omega, this.2⟩
  · have := h.rd
    unfold RD at this ⊢
    simp only [fun b c => X2 10 b c (by decide), fun b c => Xf 9 b c (by decide) (by decide) (by decide), fun b c => Xf 11 b c (by decide) (by decide) (by decide), fun b c => Xf 12 b c (by decide) (by decide) (by decide), v22, v23, v24, v25, eC, eP]
    exact this
  · have := h.rp
    unfold RP at this ⊢
    simp only [v16, v17, v22, eP, eA]
    exact this
  · have := h.rh
    unfold RH at this ⊢
    simp only [fun b c => X2 13 b c (by decide), hv1 27 (by decide), hv1 28 (by decide), fun b c => Xf 9 b c (by decide) (by decide) (by decide), v16, v22, v25, v26]
    exact this
  · exact RK1_ext (h.rk k hk) (fun κ a b s => Xf κ k s (by omega) (by omega) (by omega)) (fun r a b j _ => by rw [hv r (by omega) (by omega)])
  · have := h.rw
    unfold RW at this ⊢
    rw [hv2]
    exact this
theorem en_f (x : cS) (T : Nat) (day : Int32) {a b c : Nat} (h1 : a ≠ 6) (h2 : a ≠ 25) (h3 : a ≠ 26) : (cEn x T day).1 a b c = x.1 a b c := by
  rw [cEn_r, if_neg (fun q => h1 q.1), if_neg (fun q => h3 q.1), if_neg (fun q => h2 q.1), if_neg (fun q => h3 q.1), cTxt_r, if_neg (fun q => h2 q.1), if_neg (fun q => h3 q.1)]
theorem en_25 (x : cS) (T : Nat) (day : Int32) {b : Nat} (hb : ¬ b = T + 2) (d : Nat) : (cEn x T day).1 25 b d = x.1 25 b d := by
  rw [cEn_r, if_neg (fun q => absurd q.1 (by decide)), if_neg (fun q => hb q.2.1), if_neg (fun q => hb q.2.1), if_neg (fun q => hb q.2.1), cTxt_r, if_neg (fun q => hb q.2), if_neg (fun q => hb q.2)]
theorem en_26 (x : cS) (T : Nat) (day : Int32) {b : Nat} (hb : ¬ b = T + 2) (d : Nat) : (cEn x T day).1 26 b d = x.1 26 b d := by
  rw [cEn_r, if_neg (fun q => absurd q.1 (by decide)), if_neg (fun q => hb q.2.1), if_neg (fun q => hb q.2.1), if_neg (fun q => hb q.2.1), cTxt_r, if_neg (fun q => hb q.2), if_neg (fun q => hb q.2)]
end REN
