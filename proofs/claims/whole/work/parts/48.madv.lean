/-! the reference: the reader goes on -/
/-- the reader's place isn't ahead of what it was -/
def EM (u v : mS) : Prop := sI (u.1 6) ≤ sI (v.1 6)
theorem EM_end {v : mS} {e : Nat} (h : v.1 6 = nI e) (he : e ≤ 1000) : sI (v.1 6) = e := by rw [h]; exact nI_clamp (by omega)
theorem scn_adv {z : Nat} {v : mS} (hI : PI z v) : EM v (scn z v) ∧ (¬ (scn z v).1 3 = 4 → sI (v.1 6) < sI ((scn z v).1 6)) := by
  obtain ⟨h1, h2, h3, h4⟩ := hI
  unfold EM scn spScan
  have hB := past_all (f := isBl) (v := v) (p := sI (v.1 6)) (by decide) h4
  have hL := past_le (f := isBl) (v := v) (p := sI (v.1 6)) (by decide) h4
  have hP0 : sI (v.1 6) ≤ scP v z (sI (v.1 6)) := hB.1
  have hP1 : scP v z (sI (v.1 6)) ≤ 1000 := by unfold scP; omega
  generalize scP v z (sI (v.1 6)) = P at hP0 hP1 ⊢
  unfold scS
  split
  · rw [show sI ((miU (miU (miU v 5 (nI P)) 3 4) 6 (nI P)).1 6) = P from nI_clamp (by omega)]
    exact ⟨hP0, fun q => absurd rfl q⟩
  · rename_i hne
    have hPz : P < z := by
      rcases Nat.lt_or_ge P z with q | q
      · exact q
      · exact absurd (see_out q) hne
    have hA := past_le (f := isSm) (v := v) (p := P + 1) (by decide) h4
    have hA1 := (past_all (f := isSm) (v := v) (p := P + 1) (by decide) h4).1
    have hD := past_le (f := isDg) (v := v) (p := P + 1) (by decide) h4
    have hD1 := (past_all (f := isDg) (v := v) (p := P + 1) (by decide) h4).1
    have key : ∀ (u : mS) (e : Nat), u.1 6 = nI e → e ≤ 1000 → P < e → sI (v.1 6) ≤ sI (u.1 6) ∧ (¬ u.1 3 = 4 → sI (v.1 6) < sI (u.1 6)) := fun u e he hb hp => by
      rw [EM_end he hb]; exact ⟨by omega, fun _ => by omega⟩
    split
    · exact key _ (pastOf isSm v z (P + 1)) rfl (by omega) (by omega)
    · split
      · exact key _ (pastOf isDg v z (P + 1)) rfl (by omega) (by omega)
      · exact key _ (P + 1) rfl (by omega) (by omega)
theorem EM_word {z : Nat} {v : mS} (w : Int32) (h : PI z v) : EM v (spWord z v w).2 := by
  unfold spWord
  split
  · exact (scn_adv h).1
  · exact Nat.le_refl _
theorem EM_num {z : Nat} {v : mS} (w : Nat) (h : PI z v) : EM v (spNumber z v w).2 := by
  unfold spNumber
  split
  · exact (scn_adv (PI_row h 10 (420 + w) (v.1 7))).1
  · exact Nat.le_refl _
theorem EM_bnd {z : Nat} {v : mS} {x : Int32 × mS} {f : mS → Int32 × mS} (h : PI z x.2) (hx : EM v x.2) (hf : ∀ u, PI z u → EM u (f u).2) : EM v (bnd x f).2 := by
  unfold bnd
  split
  · exact hx
  · exact Nat.le_trans hx (hf _ h)
theorem EM_rsC {z k : Nat} {u : mS} (h : PI z u) : EM u (rsC z k u).2 := EM_bnd (PI_w2 9 h) (EM_word 9 h) (fun b hb => EM_bnd (PI_n2 _ hb) (EM_num _ hb) (fun c _ => Nat.le_refl _))
theorem EM_rsD {z k : Nat} {u : mS} (h : PI z u) : EM u (rsD z k u).2 := by
  unfold rsD
  split
  · exact Nat.le_trans (scn_adv h).1 (EM_bnd (PI_n2 _ (PI_scn h)) (EM_num _ (PI_scn h)) (fun b hb => EM_bnd (PI_w2 7 hb) (EM_word 7 hb) (fun c hc => EM_bnd (PI_n2 _ hc) (EM_num _ hc) (fun d hd => EM_rsC hd))))
  · exact EM_rsC h
theorem EM_rsB {z k : Nat} {u : mS} (h : PI z u) : EM u (rsB z k u).2 := by
  unfold rsB
  refine EM_bnd (PI_w2 7 h) (EM_word 7 h) (fun b hb => ?_)
  refine EM_bnd (PI_n2 _ hb) (EM_num _ hb) (fun c hc => ?_)
  exact EM_rsD (u := mrU c 10 (436 + k) (c.2.1 10 (424 + k))) (PI_row hc 10 (436 + k) (c.2.1 10 (424 + k)))
