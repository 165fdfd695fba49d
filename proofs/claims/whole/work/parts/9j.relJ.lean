/-! laws: lines and the text -/
section REJ
variable {z : Nat} {x x' : cS} {v v' : mS}
theorem QB_o9 {X : Int32 × cS} {V : Int32 × mS} (h : QB z X V) : QB z (cbnd X one9) V := by
  have h' := h
  obtain ⟨h1, h01, h2, h3⟩ := h
  unfold cbnd one9
  rcases h01 with q | q
  · rw [if_pos q]
    exact ⟨by show (0 : Int32) = V.1; rw [← h1, q], Or.inl rfl, h2, fun q9 => absurd rfl q9⟩
  · have : ¬ X.1 = 0 := by rw [q]; decide
    rw [if_neg this]
    exact ⟨by show (1 : Int32) = V.1; rw [← h1, q], Or.inr rfl, h2, fun _ => h3 this⟩
theorem QB_semi (hA : QA z) {X : Int32 × cS} {V : Int32 × mS} (h : QB z X V) : QB z (cbnd X (tkS z)) (rlE z V) := by
  unfold rlE
  refine QB_bnd h (fun a b h1 h2 => ?_)
  unfold tkS
  by_cases h3 : b.1 3 = 3
  · rw [if_pos (h2.2.2.1.mpr h3), if_pos h3]; exact QB_adv hA h1
  · rw [if_neg (fun q => h3 (h2.2.2.1.mp q)), if_neg h3]; exact QB_fail h1 h2 1
theorem cbnd_f (x : cS) (f : cS → Int32 × cS) : cbnd (0, x) f = (0, x) := rfl
theorem cbnd_t (x : cS) (f : cS → Int32 × cS) : cbnd (1, x) f = f x := rfl
theorem cbnd_as (X : Int32 × cS) (f g : cS → Int32 × cS) : cbnd (cbnd X f) g = cbnd X (fun a => cbnd (f a) g) := by
  unfold cbnd
  by_cases h : X.1 = 0
  · simp [h]
  · simp [h]
theorem QB_N (hA : QA z) (h : Q0 z x v) (ht : QT z x v) {j : Nat} (hj : j < 3) : QB z (cbnd (rdN z j x) (tkS z)) (if v.2.1 13 j = 0 then rlE z (spNumber z (scn z (mrU v 13 j 1)) j) else (0, wrg v 3)) := by
  unfold rdN tkF
  rw [h.2.2.2.2.1.1 j (by omega)]
  by_cases h1 : v.2.1 13 j = 0
  · rw [if_pos h1, if_pos h1, cbnd_t]
    have a := hA _ _ (Q0_told h (w := j) (by omega))
    have e : wOf j = j := by unfold wOf; rw [if_pos (by omega)]
    have b := QB_num hA a.1 a.2 (i := j) (by omega)
    rw [e] at b
    exact QB_semi hA (QB_o9 b)
  · rw [if_neg h1, if_neg h1, cbnd_f, cbnd_f]; exact QB_fail h ht 3
theorem QB_T (hA : QA z) (h : Q0 z x v) (ht : QT z x v) : QB z (cbnd (tkT z x) (tkS z)) (rlT z v) := by
  unfold tkT rlT
  have w5 := ht.2.2.2.2.1 5 (by omega)
  have w6 := ht.2.2.2.2.1 6 (by omega)
  by_cases h1 : v.1 3 = 1 ∧ (v.1 4 = 5 ∨ v.1 4 = 6)
  · have h2 : (cIsW z x 6 || cIsW z x 5) = true := by
      rw [Bool.or_eq_true_iff]
      rcases h1.2 with q | q
      · exact Or.inr (w5.mpr ⟨h1.1, q⟩)
      · exact Or.inl (w6.mpr ⟨h1.1, q⟩)
    rw [if_pos h2, if_pos h1]
    have e : zI (cIsW z x 6) = if v.1 4 = 6 then 1 else 0 := by
      by_cases q : v.1 4 = 6
      · rw [if_pos q, w6.mpr ⟨h1.1, q⟩]; rfl
      · rw [if_neg q, Bool.eq_false_iff.mpr (fun q9 => q (w6.mp q9).2)]; rfl
    rw [e]
    refine QB_semi hA (QB_adv hA ?_)
    refine Q0_put h (i := 3) (by omega) ?_
    split
    · exact ⟨Or.inr (by decide), by decide, by decide⟩
    · exact ⟨Or.inr (by decide), by decide, by decide⟩
  · have h2 : ¬ (cIsW z x 6 || cIsW z x 5) = true := fun q => h1 (by
      rw [Bool.or_eq_true_iff] at q
      rcases q with q | q
      · exact ⟨(w6.mp q).1, Or.inr (w6.mp q).2⟩
      · exact ⟨(w5.mp q).1, Or.inl (w5.mp q).2⟩)
    rw [if_neg h2, if_neg h1, cbnd_f]; exact QB_fail h ht 1
theorem QB_line (hA : QA z) (h : Q0 z x v) (ht : QT z x v) : QB z (cbnd (rdL z x) (tkS z)) (spReadLine z v) := by
  have hw := ht.2.2.2.2.1
  unfold rdL spReadLine
  by_cases h1 : v.1 3 = 1 ∧ v.1 4 ≤ 4
  · rw [if_pos h1]
    have hn := ht.2.2.2.2.2.1 h1.1
    have h4 : nn 4 4 := ⟨rfl, Nat.le_refl _⟩
    have hle : sI (v.1 4) ≤ 4 := (nn_le hn h4 (by omega) (by omega)).mp h1.2
    generalize hj : sI (v.1 4) = j at hle
    have ej : v.1 4 = nI j := by rw [← hj]; exact hn.1
    have hit : cIsW z x j = true := (hw j (by omega)).mpr ⟨h1.1, ej⟩
    have mis : ∀ i, i < 10 → ¬ i = j → ¬ cIsW z x i = true := fun i hi hne q => hne (by
      have := ((hw i hi).mp q).2
      rw [ej] at this
      have e := congrArg sI this
      rw [sI_nI (by omega), sI_nI (by omega)] at e
      exact e.symm)
    rw [ej]
    rcases (show j = 0 ∨ j = 1 ∨ j = 2 ∨ j = 3 ∨ j = 4 by omega) with q | q | q | q | q
    · subst q
      rw [if_pos hit, if_neg (by decide)]
      have := QB_N hA h ht (j := 0) (by omega)
      rw [if_neg (show ¬ nI 0 = 3 by decide)]
      exact this
    · subst q
      rw [if_neg (mis 0 (by omega) (by omega)), if_pos hit, if_neg (by decide)]
      have := QB_N hA h ht (j := 1) (by omega)
      rw [if_neg (show ¬ nI 1 = 3 by decide)]
      exact this
    · subst q
      rw [if_neg (mis 0 (by omega) (by omega)), if_neg (mis 1 (by omega) (by omega)), if_pos hit, if_neg (by decide)]
      have := QB_N hA h ht (j := 2) (by omega)
      rw [if_neg (show ¬ nI 2 = 3 by decide)]
      exact this
    · subst q
      rw [if_neg (mis 0 (by omega) (by omega)), if_neg (mis 1 (by omega) (by omega)), if_neg (mis 2 (by omega) (by omega)), if_pos hit, if_neg (by decide)]
      unfold tkF
      rw [h.2.2.2.2.1.1 3 (by omega)]
      by_cases h3 : v.2.1 13 3 = 0
      · rw [if_pos h3, if_pos h3, if_pos (show nI 3 = 3 by decide), cbnd_t, cbnd_as]
        have a := hA _ _ (Q0_told h (w := 3) (by omega))
        have e : (fun a => cbnd (one9 a) (tkS z)) = tkS z := rfl
        rw [e]
        exact QB_T hA a.1 a.2
      · rw [if_neg h3, if_neg h3, cbnd_f, cbnd_f]; exact QB_fail h ht 3
    · subst q
      rw [if_neg (mis 0 (by omega) (by omega)), if_neg (mis 1 (by omega) (by omega)), if_neg (mis 2 (by omega) (by omega)), if_neg (mis 3 (by omega) (by omega)), if_pos (show nI 4 = 4 by decide)]
      unfold tkW spReadSuit
      rw [if_pos hit, cbnd_t]
      have a := hA _ _ h
      exact QB_semi hA (QB_o9 (QB_S hA a.1 a.2))
  · rw [if_neg h1]
    have mis : ∀ i, i < 5 → ¬ cIsW z x i = true := fun i hi q => h1 (by
      have := (hw i (by omega)).mp q
      refine ⟨this.1, ?_⟩
      rw [this.2]
      show nI i ≤ nI 4
      exact nI_le (by omega) (by omega))
    rw [if_neg (mis 0 (by omega)), if_neg (mis 1 (by omega)), if_neg (mis 2 (by omega)), if_neg (mis 3 (by omega))]
    unfold tkW
    rw [if_neg (mis 4 (by omega)), cbnd_f, cbnd_f]
    exact QB_fail h ht 1
theorem QB_text (hA : QA z) : ∀ (f : Nat) {x : cS} {v : mS}, Q0 z x v → QT z x v → QB z (rdX z f x) (lwL z f v)
  | 0, _, _, h, ht => QB_one h ht
  | f + 1, x, v, h, ht => by
    rw [rdX, lwL]
    by_cases h1 : v.1 3 = 4
    · rw [if_pos (ht.2.2.2.1.mpr h1), if_pos h1]; exact QB_one h ht
    · rw [if_neg (fun q => h1 (ht.2.2.2.1.mp q)), if_neg h1, ← cbnd_as]
      exact QB_bnd (QB_line hA h ht) (fun a b h3 h4 => QB_text hA f h3 h4)
end REJ
