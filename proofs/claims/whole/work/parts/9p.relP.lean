section REP
variable {n T z : Nat} {x x' : cS} {v v' : mS}
theorem rel_enact (h : Rel n T x v) (hT : T < 15) {day : Int32} (hday : nn day 20000) (hdr : ∀ w, w < 51 → x.1 26 0 w = lwv (fun i => v.2.1 10 (420 + i)) (-1) w) (hlk : ∀ i, i < 28 → lok i (v.2.1 10 (420 + i))) : Rel n (T + 1) (cEn x T day) (miU (mrU (lwC T v 28) 11 T day) 12 (nI (T + 1))) :=
  rel_enactW h hT hday hdr hlk (lwC_1 T v 28) (fun s hs => lwC_f T v hs 28) (lwC_2 T v 28) (lwC_r T v hT 28 (Nat.le_refl _))
theorem KP_lwL (z : Nat) : ∀ f u, KP (lwL z f u).2 u
  | 0, u => KP.rf u
  | f + 1, u => by
    rw [lwL]
    split
    · exact KP.rf u
    · exact KP_bnd (KP_rl z u) (fun w => KP_lwL z f w)
theorem rel_laws (h : Rel n T x v) (day : Int32) : (¬ (¬ day < x.1 0 0 8 ∧ day ≤ 20000) → (spLaws (sI (v.1 1)) T v day).1 = -2 ∧ Rel n T (cI x 1 0 1 0) (spLaws (sI (v.1 1)) T v day).2) ∧ ((¬ day < x.1 0 0 8 ∧ day ≤ 20000) → ((rdT (sI (v.1 1)) x).1 = 0 → (spLaws (sI (v.1 1)) T v day).1 = -1 ∧ Rel n T (cI (rdT (sI (v.1 1)) x).2 1 0 1 0) (spLaws (sI (v.1 1)) T v day).2) ∧ (¬ (rdT (sI (v.1 1)) x).1 = 0 → (T = 15 → (spLaws (sI (v.1 1)) T v day).1 = -3 ∧ Rel n T (cI (rdT (sI (v.1 1)) x).2 1 0 1 0) (spLaws (sI (v.1 1)) T v day).2) ∧ (T < 15 → (spLaws (sI (v.1 1)) T v day).1 = nI T ∧ Rel n (T + 1) (cEn (cI (rdT (sI (v.1 1)) x).2 1 0 1 0) T day) (spLaws (sI (v.1 1)) T v day).2))) := by
  have hN14 := h.rs.2.2.2.2.1
  have hq : (¬ day < x.1 0 0 8 ∧ day ≤ 20000) ↔ inR (v.1 14).toInt 20000 day = true := by
    rw [inR_b, h.rs.2.2.2.1, Int32.not_lt, le_toI, le_toI]
    exact Iff.rfl
  unfold spLaws
  constructor
  · intro hn
    rw [if_neg (fun q => hn (hq.mpr q))]
    exact ⟨rfl, h.rs, ⟨rfl, ⟨rfl, Nat.zero_le _⟩, h.rt.2.2⟩, h.rl, h.rc, h.rd, h.rp, h.rh, h.rk, h.rx, h.rw⟩
  · intro hok
    rw [if_pos (hq.mp hok)]
    have hst := rel_start h
    have hadv := q_adv (sI (v.1 1)) _ _ hst
    have hB := QB_text (q_adv (sI (v.1 1))) 1001 hadv.1 hadv.2
    have hB : QB (sI (v.1 1)) (rdT (sI (v.1 1)) x) (lwR (sI (v.1 1)) (scn (sI (v.1 1)) (lwA v))) := hB
    obtain ⟨b1, -, b3, -⟩ := hB
    have k1 := (KP_lwL (sI (v.1 1)) 1001 (scn (sI (v.1 1)) (lwA v))).tr (KP_scn (sI (v.1 1)) (lwA v))
    have k1 : KP (lwR (sI (v.1 1)) (scn (sI (v.1 1)) (lwA v))).2 (lwA v) := k1
    have k2 := (lwT_o (lwD (miU (miU (miU (lwS v) 8 0) 9 (-1)) 6 0) 28) 10).1.tr (lwD_o (miU (miU (miU (lwS v) 8 0) 9 (-1)) 6 0) 28)
    have k3 : KP (lwR (sI (v.1 1)) (scn (sI (v.1 1)) (lwA v))).2 (miU (miU (miU (lwS v) 8 0) 9 (-1)) 6 0) := k1.tr k2
    have hR : Rel n T (cI (rdT (sI (v.1 1)) x).2 1 0 1 0) (lwR (sI (v.1 1)) (scn (sI (v.1 1)) (lwA v))).2 := by
      refine rel_read h (kr_rdT _ x) b3 (k3.1 1 (by omega)) (fun i hi => (k3.1 i (by omega)).trans ?_) (fun s a b => k3.2.1 s a b) (fun i hi => k3.2.2.1 i hi) k3.2.2.2
      unfold lwS
      rw [miU_r, if_neg (by omega), miU_r, if_neg (by omega), miU_r, if_neg (by omega), miU_r, if_neg (by omega), miU_r, if_neg (by omega)]
    refine ⟨fun h0 => ?_, fun h0 => ⟨fun hT => ?_, fun hT => ?_⟩⟩
    · rw [if_pos (b1 ▸ h0)]; exact ⟨rfl, hR⟩
    · rw [if_neg (b1 ▸ h0)]
      unfold lwE
      rw [if_pos hT]
      exact ⟨rfl, hR⟩
    · rw [if_neg (b1 ▸ h0)]
      unfold lwE
      rw [if_neg (by omega)]
      have hday : nn day 20000 := by
        have h2 := inR_b.mp (hq.mp hok)
        have h3 := nn_pos hN14 (by omega)
        have e0 : (0 : Int32).toInt = 0 := rfl
        obtain ⟨j, hj, ej⟩ := nI_of (x := day) (fun q => by
          have := Int32.lt_iff_toInt_lt.mp q
          omega)
        refine nn_of ej ?_ (by omega)
        have h3 : nI j ≤ nI 20000 := by rw [le_toI, ← ej]; exact h2.2
        exact (nI_leI hj (by omega)).mp h3
      exact ⟨rfl, rel_enact hR hT hday b3.2.2.2.2.2.1 b3.2.2.2.2.2.2⟩
end REP
