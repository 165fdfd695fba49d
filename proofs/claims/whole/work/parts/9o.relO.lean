/-! laws: a text laid down; the whole call (second half) -/
section REO
variable {n T z : Nat} {x x' : cS} {v v' : mS}
theorem en_25n (x : cS) (T : Nat) (day : Int32) : (cEn x T day).1 25 (T + 2) 1 = day := by
  rw [cEn_r, if_neg (fun q => absurd q.1 (by decide)), if_neg (fun q => absurd q.1 (by decide)), if_pos ⟨rfl, rfl, rfl⟩]
theorem en_26n (x : cS) (T : Nat) (day : Int32) {d : Nat} (hd : d < 51) : (cEn x T day).1 26 (T + 2) d = if d = 50 then nI T else x.1 26 0 d := by
  rw [cEn_r, if_neg (fun q => absurd q.1 (by decide))]
  by_cases e : d = 50
  · rw [if_pos ⟨rfl, rfl, e⟩, if_pos e]
  · rw [if_neg (fun q => e q.2.2), if_neg (fun q => absurd q.1 (by decide)), if_pos ⟨rfl, rfl, hd⟩, if_neg e, cTxt_r, if_neg (fun q => absurd q.1 (by decide)), if_neg (fun q => absurd q.2 (by omega))]
theorem en_6 (x : cS) (T : Nat) (day : Int32) : (cEn x T day).1 6 0 2 = nI (T + 1) := by rw [cEn_r, if_pos ⟨rfl, rfl, rfl⟩]
theorem en_2 (x : cS) (T : Nat) (day : Int32) {a b c : Nat} (h : a ≠ 7) : (cEn x T day).2.2 a b c = x.2.2 a b c := by rw [cEn_2, if_neg (fun q => h q.1)]
end REO
