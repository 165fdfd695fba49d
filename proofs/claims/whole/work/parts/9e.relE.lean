/-! feed -/
section REE
variable {n T : Nat} {x x' : cS} {v v' : mS}
theorem byt_8 (z : Int8) : byt z.toInt32 := by
  unfold byt
  rw [Int8.toInt_toInt32]
  have h1 := Int8.le_toInt z
  have h2 := Int8.toInt_lt z
  omega
theorem rel_fd1 (h : Rel n T x v) {u : Nat} (hu : u < 1000) {z : Int32} (hz : byt z) : Rel n T (cI (cI x 2 0 u z) 1 0 1 (nI (u + 1))) (miU (mrU v 0 u z) 1 (nI (u + 1))) := by
  refine ⟨h.rs, ⟨?_, nn_nI (by omega) (by omega), fun j hj => ?_⟩, h.rl, h.rc, h.rd, h.rp, h.rh, h.rk, h.rx, h.rw⟩
  · rw [cI_r, if_pos ⟨rfl, rfl, rfl⟩]; rfl
  · rw [cI_r, if_neg (by omega), cI_r, miU_s, mrU_r]
    by_cases hju : j = u
    · rw [if_pos ⟨rfl, rfl, hju⟩, if_pos ⟨rfl, hju⟩]; exact ⟨rfl, hz⟩
    · rw [if_neg (fun q => hju q.2.2), if_neg (fun q => hju q.2)]; exact h.rt.2.2 j hj
theorem rel_fdJ (h : Rel n T x v) {u : Nat} (e : v.1 1 = nI u) (q : Int32) : ∀ j, u + j ≤ 1000 → Rel n T (cAp x u q j) (fdJ v q j)
  | 0, _ => h
  | j + 1, hj => by
    have ih := rel_fdJ h e q j (by omega)
    have e1 := fdJ_t e q j
    rw [cAp, fdJ, fd1, e1, nI_1, sI_nI (by omega)]
    exact rel_fd1 ih (by omega) (byt_8 _)
theorem rel_fdK (h : Rel n T x v) {u : Nat} (e : v.1 1 = nI u) (xs : Nat → Int32) : ∀ k, u + 4 * k ≤ 1000 → Rel n T (cFd x u xs k) (fdK v xs k)
  | 0, _ => h
  | k + 1, hk => by
    have ih := rel_fdK h e xs k (by omega)
    rw [cFd, fdK]
    exact rel_fdJ ih (fdK_t e xs k) (xs k) 4 (by omega)
theorem rel_feed (h : Rel n T x v) (xs : Nat → Int32) : (csFeed x (sI (v.1 1)) xs).1 = (spFeed (sI (v.1 1)) v xs).1 ∧ Rel n T (csFeed x (sI (v.1 1)) xs).2 (spFeed (sI (v.1 1)) v xs).2 := by
  unfold csFeed spFeed
  by_cases h1 : sI (v.1 1) + 20 ≤ 1000
  · rw [if_pos h1, if_pos h1]
    exact ⟨rfl, rel_fdK h h.rt.2.1.1 xs 5 (by omega)⟩
  · rw [if_neg h1, if_neg h1]; exact ⟨rfl, h⟩
end REE
