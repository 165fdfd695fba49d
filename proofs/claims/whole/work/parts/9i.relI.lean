/-! laws: the two readers side by side -/
section REI
variable {z : Nat} {x x' : cS} {v v' : mS}
def wOf (i : Nat) : Nat := if i < 4 then i else if i < 10 then i + 6 else if i < 16 then i + 10 else if i < 22 then i + 14 else i + 18
theorem lwv_put (f : Nat → Int32) (tx a : Int32) {i w : Nat} (hi : i < 28) (hw : w < 51) : lwv (fun j => if j = i then a else f j) tx w = if w = wOf i then a else lwv f tx w := by
  unfold lwv wOf
  dsimp only
  repeat' split
  all_goals first | rfl | (exfalso; omega)
/-- the readers without their token -/
def Q0 (z : Nat) (x : cS) (v : mS) : Prop := (∀ j, j < 1000 → x.1 2 0 j = v.2.1 0 j ∧ byt (v.2.1 0 j)) ∧ z ≤ 1000 ∧ (x.1 3 0 8 = v.1 6 ∧ nn (v.1 6) 1000) ∧ (x.1 3 0 4 = v.1 8 ∧ x.1 3 0 5 = v.1 9) ∧ ((∀ w, w < 4 → x.1 4 0 w = v.2.1 13 w) ∧ ∀ k, k < 6 → x.1 5 0 k = v.2.1 13 (4 + k)) ∧ (∀ w, w < 51 → x.1 26 0 w = lwv (fun i => v.2.1 10 (420 + i)) (-1) w) ∧ ∀ i, i < 28 → lok i (v.2.1 10 (420 + i))
/-- the token -/
def QT (z : Nat) (x : cS) (v : mS) : Prop := x.1 3 0 7 = v.1 5 ∧ (x.1 3 0 6 = 2 ↔ v.1 3 = 2) ∧ (x.1 3 0 6 = 3 ↔ v.1 3 = 3) ∧ (x.1 3 0 6 = 0 ↔ v.1 3 = 4) ∧ (∀ j, j < 10 → (cIsW z x j = true ↔ v.1 3 = 1 ∧ v.1 4 = nI j)) ∧ (v.1 3 = 1 → nn (v.1 4) 9) ∧ (v.1 3 = 2 → x.1 3 0 9 = v.1 7 ∧ nn (v.1 7) 99999)
def QB (z : Nat) (X : Int32 × cS) (V : Int32 × mS) : Prop := X.1 = V.1 ∧ (X.1 = 0 ∨ X.1 = 1) ∧ Q0 z X.2 V.2 ∧ (¬ X.1 = 0 → QT z X.2 V.2)
def QA (z : Nat) : Prop := ∀ x v, Q0 z x v → Q0 z (cAdv x z) (scn z v) ∧ QT z (cAdv x z) (scn z v)
theorem QB_bnd {X : Int32 × cS} {V : Int32 × mS} {f : cS → Int32 × cS} {g : mS → Int32 × mS} (h : QB z X V) (hf : ∀ a b, Q0 z a b → QT z a b → QB z (f a) (g b)) : QB z (cbnd X f) (bnd V g) := by
  obtain ⟨h1, -, h2, h3⟩ := h
  unfold cbnd bnd
  rw [← h1]
  by_cases h0 : X.1 = 0
  · rw [if_pos h0, if_pos h0]; exact ⟨rfl, Or.inl rfl, h2, fun q => absurd rfl q⟩
  · rw [if_neg h0, if_neg h0]; exact hf _ _ h2 (h3 h0)
theorem QB_fail (h : Q0 z x v) (ht : QT z x v) (k : Int32) : QB z (0, cFail x k) (0, wrg v k) := by
  obtain ⟨a, b, c, d, e, f, g⟩ := h
  refine ⟨rfl, Or.inl rfl, ⟨a, b, c, ⟨?_, ?_⟩, e, f, g⟩, fun q => absurd rfl q⟩
  · show (cFail x k).1 3 0 4 = k
    unfold cFail; simp [cI_r]
  · show (cFail x k).1 3 0 5 = v.1 5
    unfold cFail; simp [cI_r, ht.1]
theorem QB_one (h : Q0 z x v) (ht : QT z x v) : QB z (1, x) (1, v) := ⟨rfl, Or.inr rfl, h, fun _ => ht⟩
theorem QB_adv (hA : QA z) (h : Q0 z x v) : QB z (1, cAdv x z) (1, scn z v) := ⟨rfl, Or.inr rfl, (hA x v h).1, fun _ => (hA x v h).2⟩
theorem Q0_put (h : Q0 z x v) {i : Nat} (hi : i < 28) {a : Int32} (ha : lok i a) : Q0 z (cI x 26 0 (wOf i) a) (mrU v 10 (420 + i) a) := by
  obtain ⟨q1, q2, q3, q4, q5, q6, q7⟩ := h
  have e : (fun j => (mrU v 10 (420 + i) a).2.1 10 (420 + j)) = fun j => if j = i then a else v.2.1 10 (420 + j) := by
    funext j
    rw [mrU_r]
    by_cases hj : j = i
    · rw [if_pos ⟨rfl, by rw [hj]⟩, if_pos hj]
    · rw [if_neg (fun q => hj (by omega)), if_neg hj]
  refine ⟨q1, q2, q3, q4, q5, fun w hw => ?_, fun j hj => ?_⟩
  · rw [e, lwv_put _ _ _ hi hw, cI_r, ← q6 w hw]
    by_cases h1 : w = wOf i
    · rw [if_pos ⟨rfl, rfl, h1⟩, if_pos h1]
    · rw [if_neg (fun q => h1 q.2.2), if_neg h1]
  · have e2 : (mrU v 10 (420 + i) a).2.1 10 (420 + j) = if j = i then a else v.2.1 10 (420 + j) := congrFun e j
    rw [e2]
    by_cases h1 : j = i
    · rw [if_pos h1, h1]; exact ha
    · rw [if_neg h1]; exact q7 j hj
theorem Q0_told (h : Q0 z x v) {w : Nat} (hw : w < 4) : Q0 z (cI x 4 0 w 1) (mrU v 13 w 1) := by
  obtain ⟨q1, q2, q3, q4, q5, q6, q7⟩ := h
  refine ⟨q1, q2, q3, q4, ⟨fun j hj => ?_, fun j hj => ?_⟩, q6, q7⟩
  · rw [cI_r, mrU_r]
    by_cases h1 : j = w
    · rw [if_pos ⟨rfl, rfl, h1⟩, if_pos ⟨rfl, h1⟩]
    · rw [if_neg (fun q => h1 q.2.2), if_neg (fun q => h1 q.2)]; exact q5.1 j hj
  · rw [cI_r, if_neg (by omega), mrU_r, if_neg (by omega)]; exact q5.2 j hj
theorem Q0_toldS (h : Q0 z x v) {w : Nat} (hw : w < 6) : Q0 z (cI x 5 0 w 1) (mrU v 13 (4 + w) 1) := by
  obtain ⟨q1, q2, q3, q4, q5, q6, q7⟩ := h
  refine ⟨q1, q2, q3, q4, ⟨fun j hj => ?_, fun j hj => ?_⟩, q6, q7⟩
  · rw [cI_r, if_neg (by omega), mrU_r, if_neg (by omega)]; exact q5.1 j hj
  · rw [cI_r, mrU_r]
    by_cases h1 : j = w
    · rw [if_pos ⟨rfl, rfl, h1⟩, if_pos ⟨rfl, by omega⟩]
    · rw [if_neg (fun q => h1 q.2.2), if_neg (fun q => h1 (by omega))]; exact q5.2 j hj
theorem QB_word (hA : QA z) (h : Q0 z x v) (ht : QT z x v) {j : Nat} (hj : j < 10) : QB z (tkW z j x) (spWord z v (nI j)) := by
  unfold tkW spWord
  by_cases h1 : v.1 3 = 1 ∧ v.1 4 = nI j
  · rw [if_pos ((ht.2.2.2.2.1 j hj).mpr h1), if_pos h1]; exact QB_adv hA h
  · rw [if_neg (fun q => h1 ((ht.2.2.2.2.1 j hj).mp q)), if_neg h1]; exact QB_fail h ht 1
theorem lok_num {i : Nat} {a : Int32} (h : nn a 99999) : lok i a := by
  have := nn_i h (by omega)
  have := h.2
  exact ⟨Or.inr (by omega), by omega, by omega⟩
theorem QB_num (hA : QA z) (h : Q0 z x v) (ht : QT z x v) {i : Nat} (hi : i < 28) : QB z (tkN z (wOf i) x) (spNumber z v i) := by
  unfold tkN spNumber
  by_cases h1 : v.1 3 = 2
  · rw [if_pos (ht.2.1.mpr h1), if_pos h1]
    obtain ⟨e, hn⟩ := ht.2.2.2.2.2.2 h1
    rw [e]
    exact QB_adv hA (Q0_put h hi (lok_num hn))
  · rw [if_neg (fun q => h1 (ht.2.1.mp q)), if_neg h1]; exact QB_fail h ht 1
theorem QB_E (hA : QA z) {k : Nat} (hk : k < 6) (h : Q0 z x v) (ht : QT z x v) : QB z (rdE z k x) (rsC z k v) := by
  unfold rdE rsC
  refine QB_bnd (QB_word hA h ht (j := 9) (by omega)) (fun a b h1 h2 => ?_)
  have e : 40 + k = wOf (22 + k) := by unfold wOf; rw [if_neg (by omega), if_neg (by omega), if_neg (by omega), if_neg (by omega)]; omega
  rw [e]
  exact QB_bnd (QB_num hA h1 h2 (by omega)) (fun a b h3 h4 => QB_one h3 h4)
theorem QB_O (hA : QA z) {k : Nat} (hk : k < 6) (h : Q0 z x v) : QB z (rdO z k x) (rsO z k v) := by
  unfold rdO rsO
  have e1 : 20 + k = wOf (10 + k) := by unfold wOf; rw [if_neg (by omega), if_neg (by omega), if_pos (by omega)]; omega
  have e2 : 30 + k = wOf (16 + k) := by unfold wOf; rw [if_neg (by omega), if_neg (by omega), if_neg (by omega), if_pos (by omega)]; omega
  rw [e1, e2]
  exact QB_bnd (QB_num hA (hA x v h).1 (hA x v h).2 (by omega)) (fun a b h1 h2 => QB_bnd (QB_word hA h1 h2 (j := 7) (by omega)) (fun a b h3 h4 => QB_bnd (QB_num hA h3 h4 (by omega)) (fun a b h5 h6 => QB_E hA hk h5 h6)))
theorem QB_D (hA : QA z) {k : Nat} (hk : k < 6) (h : Q0 z x v) (ht : QT z x v) : QB z (rdD z k x) (rsD z k v) := by
  unfold rdD rsD
  by_cases h1 : v.1 3 = 1 ∧ v.1 4 = 8
  · rw [if_pos ((ht.2.2.2.2.1 8 (by omega)).mpr h1), if_pos h1]; exact QB_O hA hk h
  · rw [if_neg (fun q => h1 ((ht.2.2.2.2.1 8 (by omega)).mp q)), if_neg h1]; exact QB_E hA hk h ht
theorem QB_B (hA : QA z) {k : Nat} (hk : k < 6) (h : Q0 z x v) (ht : QT z x v) : QB z (rdB z k x) (rsB z k v) := by
  unfold rdB rsB
  have e1 : 10 + k = wOf (4 + k) := by unfold wOf; rw [if_neg (by omega), if_pos (by omega)]; omega
  have e2 : 30 + k = wOf (16 + k) := by unfold wOf; rw [if_neg (by omega), if_neg (by omega), if_neg (by omega), if_pos (by omega)]; omega
  refine QB_bnd (QB_word hA h ht (j := 7) (by omega)) (fun a b h1 h2 => ?_)
  rw [e1]
  refine QB_bnd (QB_num hA h1 h2 (by omega)) (fun a b h3 h4 => ?_)
  have e3 : a.1 26 0 (10 + k) = b.2.1 10 (424 + k) := by
    rw [h3.2.2.2.2.2.1 (10 + k) (by omega)]
    have := (lwv_k (fun i => b.2.1 10 (420 + i)) (-1) k hk).1
    rw [this, ← Nat.add_assoc]
  unfold rdW
  rw [e3, e2, show 436 + k = 420 + (16 + k) by omega]
  have hl : lok (16 + k) (b.2.1 10 (424 + k)) := by
    have := h3.2.2.2.2.2.2 (4 + k) (by omega)
    rw [← Nat.add_assoc] at this
    exact ⟨Or.inr (this.1.resolve_left (by omega)), this.2⟩
  exact QB_D hA hk (Q0_put h3 (by omega) hl) h4
theorem QB_S (hA : QA z) (h : Q0 z x v) (ht : QT z x v) : QB z (rdS z x) (rsA z v) := by
  unfold rdS rdA tkK rsA
  by_cases h1 : v.1 3 = 2
  · rw [if_pos (ht.2.1.mpr h1), if_pos h1]
    obtain ⟨e, hn⟩ := ht.2.2.2.2.2.2 h1
    rw [e]
    have hi : isC 6 (v.1 7) = true ↔ v.1 7 ≤ 5 := by
      have h5 : nn 5 5 := ⟨rfl, Nat.le_refl _⟩
      rw [nn_le hn h5 (by omega) (by omega)]
      have e5 : sI 5 = 5 := rfl
      rw [e5]
      constructor
      · intro q
        have := (isC_x (n := 6) (by omega) q).1
        omega
      · intro q
        exact (inR_c (n := 6) (by omega)).mpr ⟨_, by omega, hn.1⟩
    by_cases h2 : v.1 7 ≤ 5
    · rw [if_pos (hi.mpr h2), if_pos h2]
      have hk := (isC_x (n := 6) (by omega) (hi.mpr h2)).1
      have e2 := h.2.2.2.2.1.2 _ hk
      rw [e2]
      by_cases h3 : v.2.1 13 (4 + sI (v.1 7)) = 0
      · rw [if_pos h3, if_pos h3]
        have hm : ¬ v.1 7 = -1 := fun q => by
          have q2 := nn_i hn (by omega)
          rw [q] at q2
          have e9 : (-1 : Int32).toInt = -1 := rfl
          rw [e9] at q2
          omega
        dsimp only
        rw [if_neg hm]
        have a1 := hA _ _ (Q0_toldS h hk)
        exact QB_B hA hk a1.1 a1.2
      · rw [if_neg h3, if_neg h3, if_pos rfl]; exact QB_fail h ht 3
    · rw [if_neg (fun q => h2 (hi.mp q)), if_neg h2, if_pos rfl]; exact QB_fail h ht 2
  · rw [if_neg (fun q => h1 (ht.2.1.mp q)), if_neg h1, if_pos rfl]; exact QB_fail h ht 1
end REI
