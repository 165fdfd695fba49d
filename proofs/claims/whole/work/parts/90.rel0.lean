/-! both programs' states side by side -/
def nn (z : Int32) (N : Nat) : Prop := z = nI (sI z) ∧ sI z ≤ N
theorem sI_nI {k : Nat} (h : k < 2 ^ 31) : sI (nI k) = k := nI_clamp h
theorem nn_nI {k N : Nat} (h : k ≤ N) (hN : N < 2 ^ 31) : nn (nI k) N := by
  have e : sI (nI k) = k := sI_nI (by omega)
  exact ⟨by rw [e], by rw [e]; exact h⟩
theorem nn_of {z : Int32} {k N : Nat} (e : z = nI k) (h : k ≤ N) (hN : N < 2 ^ 31) : nn z N := by rw [e]; exact nn_nI h hN
def byt (z : Int32) : Prop := -128 ≤ z.toInt ∧ z.toInt ≤ 127
def lok (j : Nat) (z : Int32) : Prop := ((10 ≤ j ∧ j < 16) ∨ 0 ≤ z.toInt) ∧ -1 ≤ z.toInt ∧ z.toInt ≤ 99999
/-- a text's values by what law() asks for -/
def lwv (f : Nat → Int32) (tx : Int32) (w : Nat) : Int32 := if w < 4 then f w else if 10 ≤ w ∧ w < 16 then f (w - 6) else if 20 ≤ w ∧ w < 26 then f (w - 10) else if 30 ≤ w ∧ w < 36 then f (w - 14) else if 40 ≤ w ∧ w < 46 then f (w - 18) else if w = 50 then tx else -9
def RS (n : Nat) (x : cS) (v : mS) : Prop := x.1 0 0 7 = nI n ∧ v.1 15 = nI n ∧ n ≤ 150 ∧ x.1 0 0 8 = v.1 14 ∧ nn (v.1 14) 20000 ∧ x.1 0 0 9 = v.1 48 ∧ x.1 0 0 10 = v.1 49 ∧ x.1 3 0 4 = v.1 8 ∧ x.1 3 0 5 = v.1 9
def RT (x : cS) (v : mS) : Prop := x.1 1 0 1 = v.1 1 ∧ nn (v.1 1) 1000 ∧ ∀ j, j < 1000 → x.1 2 0 j = v.2.1 0 j ∧ byt (v.2.1 0 j)
def RLw (T : Nat) (x : cS) (v : mS) : Prop := x.1 6 0 2 = nI T ∧ v.1 12 = nI T ∧ T ≤ 15 ∧ (∀ j, j < T → x.2.2 7 0 j = some (j + 2) ∧ x.1 25 (j + 2) 1 = v.2.1 11 j ∧ nn (v.2.1 11 j) 20000 ∧ (∀ w, w < 51 → x.1 26 (j + 2) w = lwv (fun z => v.2.1 10 (28 * j + z)) (nI j) w) ∧ ∀ z, z < 28 → lok z (v.2.1 10 (28 * j + z))) ∧ x.1 25 1 1 = -1 ∧ ∀ w, w < 51 → x.1 26 1 w = lwv (fun z => mPlain (nI z)) (-1) w
def RC1 (x : cS) (v : mS) (c : Nat) : Prop := x.2.2 8 0 c = some c ∧ x.1 24 c 0 = nI c ∧ x.1 24 c 1 = v.2.1 16 c ∧ nn (v.2.1 16 c) 9 ∧ x.1 24 c 2 = v.2.1 17 c ∧ nn (v.2.1 17 c) 4 ∧ x.1 24 c 3 = v.2.1 18 c ∧ x.1 24 c 4 = v.2.1 19 c ∧ x.1 24 c 5 = v.2.1 20 c ∧ nn (v.2.1 20 c) 2000000000 ∧ x.1 24 c 6 = v.2.1 21 c ∧ x.1 24 c 7 = v.2.1 22 c ∧ x.1 24 c 8 = v.2.1 23 c ∧ x.1 24 c 9 = v.2.1 24 c ∧ (v.2.1 22 c = -1 ∨ nn (v.2.1 22 c) 149) ∧ (v.2.1 24 c = -1 ∨ nn (v.2.1 24 c) 4) ∧ (v.2.1 19 c = 0 ∨ v.2.1 19 c = 1)
def RC (n T : Nat) (x : cS) (v : mS) : Prop := (∀ c, c < n → RC1 x v c) ∧ (∀ c, n ≤ c → c < 150 → v.2.1 19 c = 0 ∧ v.2.1 20 c = 0 ∧ v.2.1 21 c = 0 ∧ v.2.1 23 c = 0) ∧ cRef n T x
def RD (n : Nat) (x : cS) (v : mS) : Prop := x.1 9 0 4 = nI (cnt (mCame v) n) ∧ (∀ i, i < cnt (mCame v) n → ∃ c, c < n ∧ x.2.2 10 0 i = some c ∧ ¬ v.2.1 22 c = -1) ∧ (∀ c, c < n → ¬ v.2.1 22 c = -1 → ∃ i, i < cnt (mCame v) n ∧ x.2.2 10 0 i = some c) ∧ (∀ t, t < 10 → ∀ w, w < 5 → x.1 11 0 (5 * t + w) = nI (cnt (mColP v (nI t) (nI w)) n)) ∧ (∀ c, c < n → (¬ v.2.1 23 c = 0 → ¬ v.2.1 22 c = -1) ∧ (¬ v.2.1 24 c = -1 → ¬ v.2.1 22 c = -1)) ∧ (∀ t, t < 10 → x.1 12 0 t = v.2.1 25 t)
/-- the places of a column are all below its number, none twice, none wanting -/
def RP (n : Nat) (v : mS) : Prop := (∀ c, c < n → ¬ v.2.1 22 c = -1 → sI (v.2.1 22 c) < cnt (mColP v (v.2.1 16 c) (v.2.1 17 c)) n) ∧ (∀ c, c < n → ∀ d, d < n → ¬ v.2.1 22 c = -1 → v.2.1 22 c = v.2.1 22 d → v.2.1 16 c = v.2.1 16 d → v.2.1 17 c = v.2.1 17 d → c = d) ∧ ∀ t, t < 10 → ∀ w, w < 5 → ∀ p, p < cnt (mColP v (nI t) (nI w)) n → ∃ c, c < n ∧ mAtP v (nI t) (nI w) (nI p) c = true
/-- the chosen -/
def RH (n : Nat) (x : cS) (v : mS) : Prop := x.1 9 0 5 = v.1 27 ∧ nn (v.1 27) 150 ∧ (∀ i, i < sI (v.1 27) → x.2.2 13 0 i = some (sI (v.2.1 26 i)) ∧ v.2.1 26 i = nI (sI (v.2.1 26 i)) ∧ sI (v.2.1 26 i) < n ∧ ¬ v.2.1 25 (sI (v.2.1 16 (sI (v.2.1 26 i)))) = 0 ∧ ¬ v.2.1 22 (sI (v.2.1 26 i)) = -1) ∧ (∀ i j, i < sI (v.1 27) → j < sI (v.1 27) → v.2.1 26 i = v.2.1 26 j → i = j) ∧ sI (v.1 27) ≤ cnt (fun c => !decide (v.2.1 25 (sI (v.2.1 16 c)) = 0)) n ∧ x.1 9 0 6 = v.1 28 ∧ nn (v.1 28) 150 ∧ sI (v.1 28) ≤ sI (v.1 27)
def RK1 (n : Nat) (x : cS) (v : mS) (k : Nat) : Prop := (x.1 18 k 2 = v.2.1 31 k ∧ nn (v.2.1 31 k) 25 ∧ x.1 18 k 3 = v.2.1 32 k ∧ nn (v.2.1 32 k) 25 ∧ sI (v.2.1 32 k) ≤ sI (v.2.1 31 k)) ∧ (∀ i, i < sI (v.2.1 32 k) → x.1 19 k i = v.2.1 33 (25 * k + i) ∧ v.2.1 33 (25 * k + i) = nI (sI (v.2.1 33 (25 * k + i))) ∧ sI (v.2.1 33 (25 * k + i)) < n) ∧ (∀ i, i < 25 → x.1 21 k i = v.2.1 34 (25 * k + i) ∧ x.1 22 k i = v.2.1 35 (25 * k + i)) ∧ (x.1 20 k 3 = v.2.1 37 k ∧ x.1 20 k 4 = v.2.1 36 k ∧ nn (x.1 20 k 5) 25) ∧ (x.1 20 k 6 = v.2.1 38 k ∧ x.1 20 k 7 = v.2.1 39 k ∧ x.1 20 k 8 = v.2.1 40 k ∧ x.1 20 k 9 = v.2.1 41 k ∧ x.1 23 k 0 = v.2.1 42 (2 * k) ∧ x.1 23 k 1 = v.2.1 42 (2 * k + 1) ∧ x.1 20 k 10 = v.2.1 43 k ∧ x.1 20 k 11 = v.2.1 44 k) ∧ (x.1 20 k 13 = v.2.1 45 k ∧ x.1 20 k 14 = v.2.1 46 k ∧ x.1 20 k 15 = v.2.1 47 k) ∧ (¬ v.2.1 37 k = 0 → x.1 20 k 5 = v.2.1 32 k ∧ v.2.1 31 k = v.2.1 32 k ∧ ¬ v.2.1 31 k = 0) ∧ (¬ v.2.1 36 k = 0 → ¬ v.2.1 37 k = 0 ∧ x.1 20 k 12 = zI (anyn (mHasP v k) (sI (v.2.1 32 k))) ∧ nn (v.2.1 38 k) 5 ∧ (v.2.1 39 k = nI (sI (v.2.1 39 k)) ∧ sI (v.2.1 39 k) < n) ∧ (v.2.1 40 k = nI (sI (v.2.1 40 k)) ∧ sI (v.2.1 40 k) < n) ∧ nn (v.2.1 41 k) 1000000 ∧ v.2.1 45 k = -1 ∧ v.2.1 46 k = -1 ∧ v.2.1 47 k = -1)
def RK (n : Nat) (x : cS) (v : mS) : Prop := ∀ k, k < 5 → RK1 n x v k
/-- who sits where -/
def RX (v : mS) : Prop := (∀ k, k < 5 → ∀ i, i < sI (v.2.1 32 k) → v.2.1 24 (sI (v.2.1 33 (25 * k + i))) = nI k ∧ ∃ j, j < sI (v.1 28) ∧ v.2.1 33 (25 * k + i) = v.2.1 26 j) ∧ ∀ k, k < 5 → ∀ i, i < sI (v.2.1 32 k) → ∀ j, j < sI (v.2.1 32 k) → v.2.1 33 (25 * k + i) = v.2.1 33 (25 * k + j) → i = j
def RW (v : mS) : Prop := ∀ a b, a < 32 → b ≤ a → v.2.2 29 (32 * a + b) = lN (ch a b)
def Rel (n T : Nat) (x : cS) (v : mS) : Prop := RS n x v ∧ RT x v ∧ RLw T x v ∧ RC n T x v ∧ RD n x v ∧ RP n v ∧ RH n x v ∧ RK n x v ∧ RX v ∧ RW v
section RE
variable {n T : Nat} {x : cS} {v : mS}
theorem Rel.rs (h : Rel n T x v) : RS n x v := h.1
theorem Rel.rt (h : Rel n T x v) : RT x v := h.2.1
theorem Rel.rl (h : Rel n T x v) : RLw T x v := h.2.2.1
theorem Rel.rc (h : Rel n T x v) : RC n T x v := h.2.2.2.1
theorem Rel.rd (h : Rel n T x v) : RD n x v := h.2.2.2.2.1
theorem Rel.rp (h : Rel n T x v) : RP n v := h.2.2.2.2.2.1
theorem Rel.rh (h : Rel n T x v) : RH n x v := h.2.2.2.2.2.2.1
theorem Rel.rk (h : Rel n T x v) : RK n x v := h.2.2.2.2.2.2.2.1
theorem Rel.rx (h : Rel n T x v) : RX v := h.2.2.2.2.2.2.2.2.1
theorem Rel.rw (h : Rel n T x v) : RW v := h.2.2.2.2.2.2.2.2.2
theorem isC_x {t : Int32} (hn : n ≤ 150) (h : isC n t = true) : sI t < n ∧ t = nI (sI t) := by
  obtain ⟨c, hc, e⟩ := (inR_c (show n < 2 ^ 31 by omega)).mp h
  have es : sI t = c := by rw [e]; exact sI_nI (by omega)
  rw [es]; exact ⟨hc, e⟩
/-! calls that only answer -/
theorem rel_fault (h : Rel n T x v) (t : Int32) : csFault x t = (if t = 0 then v.1 8 else if t = 1 then v.1 9 else -1) := by
  rw [csFault, h.rs.2.2.2.2.2.2.2.1, h.rs.2.2.2.2.2.2.2.2]
theorem rel_count (h : Rel n T x v) (t : Int32) : csCount x t = spCount n v t := by
  obtain ⟨h1, h2, -, h3, -, h4, h5, -⟩ := h.rs
  rw [csCount, spCount, h1, h2, h3, h4, h5, h.rd.1, h.rh.1, h.rh.2.2.2.2.2.1, h.rl.1, h.rl.2.1, h.rt.1]
theorem rel_seat (h : Rel n T x v) (k i : Int32) : csSeat x (fun k => sI (v.2.1 32 k)) k i = spSeat (fun k => sI (v.2.1 32 k)) v k i := by
  unfold csSeat spSeat
  by_cases hk : isK k = true
  · obtain ⟨hk5, -⟩ := isC_x (n := 5) (by omega) hk
    obtain ⟨⟨-, -, -, h4, -⟩, h2, -⟩ := h.rk (sI k) hk5
    rw [if_pos hk]
    by_cases hi : isC (sI (v.2.1 32 (sI k))) i = true
    · obtain ⟨hi1, -⟩ := isC_x (by have := h4.2; omega) hi
      simp only [hk, hi, Bool.and_self, if_true]
      exact (h2 _ hi1).1
    · simp only [hk, Bool.eq_false_iff.mpr hi, Bool.and_false]; rfl
  · rw [if_neg hk]
    simp only [Bool.eq_false_iff.mpr hk, Bool.false_and]; rfl
theorem rel_chosen (h : Rel n T x v) (i : Int32) : csChosen x (sI (v.1 27)) (fun i => sI (v.2.1 26 i)) i = spChosen (sI (v.1 27)) v i := by
  unfold csChosen spChosen
  by_cases hi : isC (sI (v.1 27)) i = true
  · obtain ⟨hi1, -⟩ := isC_x h.rh.2.1.2 hi
    rw [if_pos hi, if_pos hi]
    obtain ⟨-, h2, h3, -⟩ := h.rh.2.2.1 _ hi1
    rw [(h.rc.1 _ h3).2.1, ← h2]
  · rw [if_neg hi, if_neg hi]
end RE
