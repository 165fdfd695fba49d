/-! laws: a text laid down; the whole call (second half) -/
section REO
variable {n T z : Nat} {x x' : cS} {v v' : mS}
theorem en_25n (x : cS) (T : Nat) (day : Int32) : (cEn x T day).1 25 (T + 2) 1 = day := by
  rw [cEn_r, if_neg (fun q => absurd q.1 (by decide)), if_neg (fun q => absurd q.1 (by decide)), if_pos ⟨rfl, rfl, rfl⟩]
theorem en_26n (x : cS) (T : Nat) (day : Int32) {d : Nat} (hd : d < 51) : (cEn x T day).1 26 (T + 2) d = if d = 50 then nI T else x.1 26 0 d := by
  rw [cEn_r, if_neg (fun q => absurd q.1 (by decide))]
  by_cases e : d = 50
  · rw [if_pos ⟨rfl, rfl, e⟩, if_pos e]
  · rw [if_neg (fun q => e q.2.2), if_neg (fun q => absurd q.1 (by decide)), if_pos ⟨rfl, rfl, hd⟩, if_neg e, cTxt_r, if_neg (fun q => absurd q.1 (by decide)), if_neg (fun q => absurd q.2 (by omega))]
theorem en_6 (x : cS) (T : Nat) (day : Int32) : (cEn x T day).1 6 0 2 = nI (T + 1) := by rw [cEn_r, if_pos ⟨rfl, rfl, rfl⟩]
theorem en_2 (x : cS) (T : Nat) (day : Int32) {a b c : Nat} (h : a ≠ 7) : (cEn x T day).2.2 a b c = x.2.2 a b c := by rw [cEn_2, if_neg (fun q => h q.1)]
theorem rel_enactW (h : Rel n T x v) (hT : T < 15) {day : Int32} (hday : nn day 20000) (hdr : ∀ w, w < 51 → x.1 26 0 w = lwv (fun i => v.2.1 10 (420 + i)) (-1) w) (hlk : ∀ i, i < 28 → lok i (v.2.1 10 (420 + i))) {U : mS} (c1 : U.1 = v.1) (cf : ∀ s, ¬ s = 10 → U.2.1 s = v.2.1 s) (c2 : U.2.2 = v.2.2) (cr : ∀ i, U.2.1 10 i = if 28 * T ≤ i ∧ i < 28 * T + 28 then v.2.1 10 (420 + (i - 28 * T)) else v.2.1 10 i) : Rel n (T + 1) (cEn x T day) (miU (mrU U 11 T day) 12 (nI (T + 1))) := by
  refine rel_enactU (V := miU (mrU U 11 T day) 12 (nI (T + 1))) h hT hday hdr hlk (fun s h1 h2 => ?_) (fun i hi => ?_) rfl c2 (fun j => ?_) (fun i => ?_) (fun a b c h1 h2 h3 => en_f x T day h1 h2 h3) (fun a b c h1 => en_2 x T day h1) (en_6 x T day) (fun b hb d => en_25 x T day hb d) (fun b hb d => en_26 x T day hb d) (en_25n x T day) (fun d hd => en_26n x T day hd) (cEn_2 x T day)
  · rw [miU_s, mrU_f _ _ _ _ h2, cf s h1]
  · rw [miU_r, if_neg hi, ← c1]; rfl
  · rw [miU_s, mrU_r, cf 11 (by decide)]; simp
  · rw [miU_s, mrU_f _ _ _ _ (by decide), cr]
end REO
