/-! the reference: laws -/
def lwD (v : mS) : Nat → mS
  | 0 => v
  | k + 1 => mrU (lwD v k) 10 (420 + k) (mPlain (nI k))
def lwT (v : mS) : Nat → mS
  | 0 => v
  | k + 1 => mrU (lwT v k) 13 k 0
def lwL (z : Nat) : Nat → mS → Int32 × mS
  | 0, u => (1, u)
  | f + 1, u => if u.1 3 = 4 then (1, u) else bnd (spReadLine z u) (lwL z f)
def lwC (T : Nat) (v : mS) : Nat → mS
  | 0 => v
  | k + 1 => mrU (lwC T v k) 10 (28 * T + k) ((lwC T v k).2.1 10 (420 + k))
theorem lwD_1 (v : mS) (k : Nat) : (lwD v k).1 = v.1 := by
  induction k with
  | zero => rfl
  | succ k ih => rw [lwD]; exact ih
theorem lwT_1 (v : mS) (k : Nat) : (lwT v k).1 = v.1 := by
  induction k with
  | zero => rfl
  | succ k ih => rw [lwT]; exact ih
theorem lwC_1 (T : Nat) (v : mS) (k : Nat) : (lwC T v k).1 = v.1 := by
  induction k with
  | zero => rfl
  | succ k ih => rw [lwC]; exact ih
theorem lwL_s {z f : Nat} {u : mS} (h : PI z u) : ∀ g, f ≤ g → 1001 ≤ f + sI (u.1 6) → lwL z f u = lwL z g u := by
  induction f generalizing u with
  | zero => intro g _ h2; obtain ⟨-, h3, -⟩ := h; omega
  | succ f ih =>
    intro g hg h2
    obtain ⟨g, rfl⟩ : ∃ j, g = j + 1 := ⟨g - 1, by omega⟩
    rw [lwL, lwL]
    by_cases c : u.1 3 = 4
    · rw [if_pos c, if_pos c]
    · rw [if_neg c, if_neg c]
      unfold bnd
      by_cases c2 : (spReadLine z u).1 = 0
      · rw [if_pos c2, if_pos c2]
      · rw [if_neg c2, if_neg c2]
        have := (rl_adv h).2 c2
        exact ih (rl_adv h).1 g (by omega) (by omega)
def lwR (z : Nat) (u : mS) : Int32 × mS := lwL z 1001 u
theorem lwR_0 {z : Nat} {u : mS} (h : u.1 3 = 4) : lwR z u = (1, u) := by rw [lwR, lwL, if_pos h]
theorem lwR_s {z : Nat} {u : mS} (h : PI z u) (h4 : ¬ u.1 3 = 4) : lwR z u = bnd (spReadLine z u) (lwR z) := by
  rw [lwR, lwL, if_neg h4]
  unfold bnd
  by_cases c2 : (spReadLine z u).1 = 0
  · rw [if_pos c2, if_pos c2]
  · rw [if_neg c2, if_neg c2, lwR]
    have := (rl_adv h).2 c2
    exact lwL_s (rl_adv h).1 1001 (by omega) (by omega)
def lwS (v : mS) : mS := miU (miU v 2 (v.1 1)) 1 0
def lwA (v : mS) : mS := lwT (lwD (miU (miU (miU (lwS v) 8 0) 9 (-1)) 6 0) 28) 10
def lwE (T : Nat) (day : Int32) (u : mS) : Int32 × mS := if T = 15 then (-3, u) else (nI T, miU (mrU (lwC T u 28) 11 T day) 12 (nI (T + 1)))
def spLaws (z T : Nat) (v : mS) (day : Int32) : Int32 × mS := if inR (v.1 14).toInt 20000 day then (if (lwR z (scn z (lwA v))).1 = 0 then (-1, (lwR z (scn z (lwA v))).2) else lwE T day (lwR z (scn z (lwA v))).2) else (-2, lwS v)
