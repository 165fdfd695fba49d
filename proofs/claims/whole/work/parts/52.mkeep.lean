/-! the reference: what the reader leaves as it was -/
def KP (u v : mS) : Prop := (∀ i, (i < 3 ∨ 9 < i) → u.1 i = v.1 i) ∧ (∀ s, s ≠ 10 → s ≠ 13 → u.2.1 s = v.2.1 s) ∧ (∀ i, i < 420 → u.2.1 10 i = v.2.1 10 i) ∧ u.2.2 = v.2.2
theorem KP.rf (v : mS) : KP v v := ⟨fun _ _ => rfl, fun _ _ _ => rfl, fun _ _ => rfl, rfl⟩
theorem KP.tr {u v w : mS} (h : KP u v) (g : KP v w) : KP u w := ⟨fun i hi => (h.1 i hi).trans (g.1 i hi), fun s a b => (h.2.1 s a b).trans (g.2.1 s a b), fun i hi => (h.2.2.1 i hi).trans (g.2.2.1 i hi), h.2.2.2.trans g.2.2.2⟩
theorem KP.int {u v : mS} (h : KP u v) (k : Nat) (x : Int32) (h1 : 3 ≤ k) (h2 : k ≤ 9) : KP (miU u k x) v := ⟨fun i hi => (pk_un (by omega)).trans (h.1 i hi), h.2⟩
theorem KP.r10 {u v : mS} (h : KP u v) (j : Nat) (x : Int32) (hj : 420 ≤ j) : KP (mrU u 10 j x) v := by
  refine ⟨h.1, fun s a b => ?_, fun i hi => ?_, h.2.2.2⟩
  · show va_up u.2.1 10 _ s = _
    rw [va_up, if_neg a]; exact h.2.1 s a b
  · have e : (mrU u 10 j x).2.1 10 i = upd (u.2.1 10) j x i := rfl
    rw [e, pk_un (by omega)]; exact h.2.2.1 i hi
theorem KP.r13 {u v : mS} (h : KP u v) (j : Nat) (x : Int32) : KP (mrU u 13 j x) v := by
  refine ⟨h.1, fun s a b => ?_, fun i hi => ?_, h.2.2.2⟩
  · show va_up u.2.1 13 _ s = _
    rw [va_up, if_neg b]; exact h.2.1 s a b
  · have e : (mrU u 13 j x).2.1 10 i = u.2.1 10 i := rfl
    rw [e]; exact h.2.2.1 i hi
theorem KP_scn (z : Nat) (v : mS) : KP (scn z v) v := by
  unfold scn spScan
  generalize scP v z (sI (v.1 6)) = P
  have h5 := (KP.rf v).int 5 (nI P) (by decide) (by decide)
  unfold scS
  split
  · exact (h5.int 3 _ (by decide) (by decide)).int 6 _ (by decide) (by decide)
  · split
    · exact ((h5.int 4 _ (by decide) (by decide)).int 3 _ (by decide) (by decide)).int 6 _ (by decide) (by decide)
    · split
      · exact ((h5.int 7 _ (by decide) (by decide)).int 3 _ (by decide) (by decide)).int 6 _ (by decide) (by decide)
      · exact (h5.int 3 _ (by decide) (by decide)).int 6 _ (by decide) (by decide)
theorem KP_wrg (v : mS) (k : Int32) : KP (wrg v k) v := ((KP.rf v).int 8 k (by decide) (by decide)).int 9 _ (by decide) (by decide)
theorem KP_word (z : Nat) (v : mS) (w : Int32) : KP (spWord z v w).2 v := by
  unfold spWord
  split
  · exact KP_scn z v
  · exact KP_wrg v 1
theorem KP_num (z : Nat) (v : mS) (w : Nat) : KP (spNumber z v w).2 v := by
  unfold spNumber
  split
  · exact (KP_scn z _).tr ((KP.rf v).r10 (420 + w) _ (by omega))
  · exact KP_wrg v 1
theorem KP_bnd {v : mS} {x : Int32 × mS} {f : mS → Int32 × mS} (hx : KP x.2 v) (hf : ∀ u, KP (f u).2 u) : KP (bnd x f).2 v := by
  unfold bnd
  split
  · exact hx
  · exact (hf _).tr hx
theorem KP_rsC (z k : Nat) (u : mS) : KP (rsC z k u).2 u := KP_bnd (KP_word z u 9) (fun b => KP_bnd (KP_num z b _) (fun c => KP.rf c))
theorem KP_rsD (z k : Nat) (u : mS) : KP (rsD z k u).2 u := by
  unfold rsD
  split
  · exact KP_bnd ((KP_num z _ _).tr (KP_scn z u)) (fun b => KP_bnd (KP_word z b 7) (fun c => KP_bnd (KP_num z c _) (fun d => KP_rsC z k d)))
  · exact KP_rsC z k u
theorem KP_rsB (z k : Nat) (u : mS) : KP (rsB z k u).2 u := by
  unfold rsB
  refine KP_bnd (KP_word z u 7) (fun b => ?_)
  refine KP_bnd (KP_num z b _) (fun c => ?_)
  exact (KP_rsD z k _).tr ((KP.rf c).r10 (436 + k) _ (by omega))
theorem KP_rs (z : Nat) (v : mS) : KP (spReadSuit z v).2 v := by
  unfold spReadSuit rsA
  have h := KP_scn z v
  split
  · split
    · split
      · exact (KP_rsB z _ _).tr ((KP_scn z _).tr (h.r13 _ _))
      · exact (KP_wrg _ 3).tr h
    · exact (KP_wrg _ 2).tr h
  · exact (KP_wrg _ 1).tr h
