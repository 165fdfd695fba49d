/-! each public call, both programs side by side: their contracts, alike answers, Rel kept -/
def bI (l : Launch) (D : va_G) (y : Nat → ClassId) (qs : Nat → Nat × Nat) (h : Nat) (a : Nat → Nat) (ad : Nat → Nat → Nat) (x : cS) (R : List (Nat × Nat)) (v : mS) (n T : Nat) (y1 : MethodName) (w1 : List Cond) (r1 : Room) (y2 : MethodName) (w2 : List Cond) (r2 : Room) (As : List Value) : Prop :=
  ∃ (P1 : Int32 → cS → Prop) (P2 : Int32 → mS → Prop), cMi l y1 w1 r1 D y ad x R qs (.ref (ad 0 0) :: As) P1 ∧ mMi l y2 w2 r2 D y h a v (.ref h :: As) P2 ∧ ∀ (r : Int32) (x' : cS) (r' : Int32) (v' : mS), P1 r x' → P2 r' v' → r = r' ∧ Rel n T x' v'
def bL (l : Launch) (D : va_G) (y : Nat → ClassId) (qs : Nat → Nat × Nat) (h : Nat) (a : Nat → Nat) (ad : Nat → Nat → Nat) (x : cS) (R : List (Nat × Nat)) (v : mS) (n T : Nat) (y1 : MethodName) (w1 : List Cond) (r1 : Room) (y2 : MethodName) (w2 : List Cond) (r2 : Room) (As : List Value) : Prop :=
  ∃ (P1 : Int64 → cS → Prop) (P2 : Int64 → mS → Prop), cMl l y1 w1 r1 D y ad x R qs (.ref (ad 0 0) :: As) P1 ∧ mMl l y2 w2 r2 D y h a v (.ref h :: As) P2 ∧ ∀ (r : Int64) (x' : cS) (r' : Int64) (v' : mS), P1 r x' → P2 r' v' → r = r' ∧ Rel n T x' v'
/-- what a call that may make objects leaves -/
def bE (ad : Nat → Nat → Nat) (u : cS × (Nat → Nat → Nat) × List (Nat × Nat)) (v' : mS) : Prop := u.2.1 0 0 = ad 0 0 ∧ ∃ n' T', cHas u.2.2 n' T' ∧ Rel n' T' u.1 v'
section LB
variable {l : Launch} {D : va_G} {y : Nat → ClassId} {qs : Nat → Nat × Nat} {h : Nat} {a : Nat → Nat} {ad : Nat → Nat → Nat} {x : cS} {R : List (Nat × Nat)} {v : mS} {n T : Nat}
theorem fin2 {p1 : Int32 × cS} {p2 : Int32 × mS} (h : p1.1 = p2.1 ∧ Rel n T p1.2 p2.2) : ∀ (r : Int32) (x' : cS) (r' : Int32) (v' : mS), (r, x') = p1 → (r', v') = p2 → r = r' ∧ Rel n T x' v' := by
  rintro r x' r' v' rfl rfl; exact h
theorem fin1 {f g : Int32} (hr : Rel n T x v) (h : f = g) : ∀ (r : Int32) (x' : cS) (r' : Int32) (v' : mS), r = f ∧ x' = x → r' = g ∧ v' = v → r = r' ∧ Rel n T x' v' := by
  rintro r x' r' v' ⟨rfl, rfl⟩ ⟨rfl, rfl⟩; exact ⟨h, hr⟩
theorem fin1l {f g : Int64} (hr : Rel n T x v) (h : f = g) : ∀ (r : Int64) (x' : cS) (r' : Int64) (v' : mS), r = f ∧ x' = x → r' = g ∧ v' = v → r = r' ∧ Rel n T x' v' := by
  rintro r x' r' v' ⟨rfl, rfl⟩ ⟨rfl, rfl⟩; exact ⟨h, hr⟩
theorem w_ro (hr : Rel n T x v) : ∀ c, c < n → x.2.2 8 0 c = some c := fun c hc => (hr.rc.1 c hc).1
theorem w_tx (hr : Rel n T x v) : ∀ j, j < T → x.2.2 7 0 j = some (j + 2) := fun j hj => (hr.rl.2.2.2.1 j hj).1
theorem w_ns (hr : Rel n T x v) : ∀ k, k < 5 → x.1 18 k 3 = nI (sI (v.2.1 32 k)) ∧ sI (v.2.1 32 k) ≤ 25 := fun k hk => by
  obtain ⟨⟨-, -, h3, h4, -⟩, -⟩ := hr.rk k hk
  exact ⟨h3.trans h4.1, h4.2⟩
theorem w_ms (hr : Rel n T x v) : ∀ k, k < 5 → v.2.1 32 k = nI (sI (v.2.1 32 k)) ∧ sI (v.2.1 32 k) ≤ 25 := fun k hk => by
  obtain ⟨⟨-, -, -, h4, -⟩, -⟩ := hr.rk k hk
  exact h4
theorem w_se (hr : Rel n T x v) : ∀ k, k < 5 → x.1 20 k 5 = nI (sI (x.1 20 k 5)) ∧ sI (x.1 20 k 5) ≤ 25 := fun k hk => (hr.rk k hk).2.2.2.1.2.2
theorem w_a1 (hr : Rel n T x v) : cnt (mCame v) n ≤ 150 := Nat.le_trans (cnt_le _ _) hr.rs.2.2.1
theorem w_co (hr : Rel n T x v) : ∀ j, j < 50 → x.1 11 0 j = nI (coX x j) ∧ coX x j ≤ 150 := fun j hj => rel_coj hr hj
theorem w_30 (hr : Rel n T x v) : ∀ t, t < 10 → cMn (coX x) t 5 ≤ 30 := fun t ht => rel_30 hr ht
theorem w_q (hr : Rel n T x v) : x.1 9 0 5 = nI (sI (v.1 27)) := hr.rh.1.trans hr.rh.2.1.1
theorem w_ch (hr : Rel n T x v) : ∀ i, i < sI (v.1 27) → x.2.2 13 0 i = some (sI (v.2.1 26 i)) ∧ sI (v.2.1 26 i) < n := fun i hi => ⟨(hr.rh.2.2.1 i hi).1, (hr.rh.2.2.1 i hi).2.2.1⟩
theorem w_tl (hr : Rel n T x v) : ∀ c, c < n → x.1 24 c 1 = nI (sI (v.2.1 16 c)) ∧ sI (v.2.1 16 c) < 10 ∧ x.1 24 c 2 = nI (sI (v.2.1 17 c)) ∧ sI (v.2.1 17 c) < 5 := fun c hc => by
  obtain ⟨-, -, h3, h4, h5, h6, -⟩ := hr.rc.1 c hc
  exact ⟨h3.trans h4.1, by have := h4.2; omega, h5.trans h6.1, by have := h6.2; omega⟩
theorem both_feed (hr : Rel n T x v) (hR : cHas R n T) (x1 x2 x3 x4 x5 : Int32) : bI l D y qs h a ad x R v n T yX9_feed wsX9_feed ({ frames := 1, cells := 0, slots := 0, locals := 22 }) yX10_feed wsX10_feed ({ frames := 0, cells := 0, slots := 0, locals := 0 }) [.int x1, .int x2, .int x3, .int x4, .int x5] :=
  ⟨_, _, ctX9_feed l D y ad x R qs n T hR x1 x2 x3 x4 x5 (sI (v.1 1)) (hr.rt.1.trans hr.rt.2.1.1) hr.rt.2.1.2, ctX10_feed l D y h a v x1 x2 x3 x4 x5 (sI (v.1 1)) hr.rt.2.1.1 hr.rt.2.1.2, fin2 (rel_feed hr _)⟩
theorem both_end (hr : Rel n T x v) (hR : cHas R n T) (t : Int32) : bI l D y qs h a ad x R v n T yX9_end wsX9_end ({ frames := 0, cells := 0, slots := 0, locals := 0 }) yX10_end wsX10_end ({ frames := 0, cells := 0, slots := 0, locals := 0 }) [.int t] :=
  ⟨_, _, ctX9_end l D y ad x R qs n T hR t, ctX10_end l D y h a v t, fin2 (rel_end hr t)⟩
theorem both_fault (hr : Rel n T x v) (hR : cHas R n T) (t : Int32) : bI l D y qs h a ad x R v n T yX9_fault wsX9_fault ({ frames := 0, cells := 0, slots := 0, locals := 0 }) yX10_fault wsX10_fault ({ frames := 0, cells := 0, slots := 0, locals := 0 }) [.int t] :=
  ⟨_, _, ctX9_fault l D y ad x R qs n T hR t, ctX10_fault l D y h a v t, fin1 hr (rel_fault hr t)⟩
theorem both_law (hr : Rel n T x v) (hR : cHas R n T) (day w : Int32) : bI l D y qs h a ad x R v n T yX9_law wsX9_law ({ frames := 1, cells := 0, slots := 0, locals := 24 }) yX10_law wsX10_law ({ frames := 2, cells := 0, slots := 0, locals := 45 }) [.int day, .int w] :=
  ⟨_, _, ctX9_law l D y ad x R qs n T hR day w hr.rl.1 hr.rl.2.2.1 (w_tx hr), ctX10_law l D y h a v day w T hr.rl.2.1 hr.rl.2.2.1, fin1 hr (rel_law hr day w)⟩
theorem both_swear (hr : Rel n T x v) (hR : cHas R n T) (t : Int32) : bI l D y qs h a ad x R v n T yX9_swear wsX9_swear ({ frames := 1, cells := 0, slots := 0, locals := 21 }) yX10_swear wsX10_swear ({ frames := 2, cells := 0, slots := 0, locals := 46 }) [.int t] :=
  ⟨_, _, ctX9_swear l D y ad x R qs n T hR t hr.rs.1 hr.rs.2.2.1 (w_ro hr), ctX10_swear l D y h a v t n hr.rs.2.1 hr.rs.2.2.1, fin2 (rel_swear hr t)⟩
theorem both_owe (hr : Rel n T x v) (hR : cHas R n T) (t q day : Int32) : bI l D y qs h a ad x R v n T yX9_owe wsX9_owe ({ frames := 2, cells := 0, slots := 0, locals := 45 }) yX10_owe wsX10_owe ({ frames := 2, cells := 0, slots := 0, locals := 46 }) [.int t, .int q, .int day] := by
  refine ⟨_, _, ctX9_owe l D y ad x R qs n T hR t q day (fun k => sI (v.2.1 32 k)) (fun k => sI (x.1 20 k 5)) hr.rs.1 hr.rs.2.2.1 (w_ro hr) (w_ns hr) (w_se hr), ctX10_owe l D y h a v t q day n (fun k => sI (v.2.1 32 k)) hr.rs.2.1 hr.rs.2.2.1 (w_ms hr), fun r x' r' v' h1 h2 => ?_⟩
  by_cases ok : okOwe9 x n t q day
  · obtain ⟨e1, e2⟩ := h1.1 ok
    have := rel_owe hr t q day ok
    rw [← h2] at this
    rw [e1, e2]; exact this
  · obtain ⟨e1, e2⟩ := h1.2 ok
    have ok2 : ¬ okOwe n v t q day = true := fun z => ok ((okOwe_iff hr t q day).mpr z)
    rw [spOwe, if_neg ok2] at h2
    obtain ⟨e3, e4⟩ := Prod.mk.inj h2
    rw [e1, e2, e3, e4]; exact ⟨rfl, hr⟩
theorem both_pay (hr : Rel n T x v) (hR : cHas R n T) (t q : Int32) : bI l D y qs h a ad x R v n T yX9_pay wsX9_pay ({ frames := 1, cells := 0, slots := 0, locals := 21 }) yX10_pay wsX10_pay ({ frames := 2, cells := 0, slots := 0, locals := 46 }) [.int t, .int q] :=
  ⟨_, _, ctX9_pay l D y ad x R qs n T hR t q hr.rs.1 hr.rs.2.2.1 (w_ro hr), ctX10_pay l D y h a v t q n hr.rs.2.1 hr.rs.2.2.1, fin2 (rel_pay hr t q)⟩
theorem both_about (hr : Rel n T x v) (hR : cHas R n T) (t w : Int32) : bI l D y qs h a ad x R v n T yX9_about wsX9_about ({ frames := 2, cells := 0, slots := 0, locals := 46 }) yX10_about wsX10_about ({ frames := 3, cells := 0, slots := 0, locals := 66 }) [.int t, .int w] :=
  ⟨_, _, ctX9_about l D y ad x R qs n T hR t w hr.rs.1 hr.rs.2.2.1 (w_ro hr) hr.rl.1 hr.rl.2.2.1 (w_tx hr), ctX10_about l D y h a v t w n T hr.rs.2.1 hr.rs.2.2.1 hr.rl.2.1 hr.rl.2.2.1, fin1 hr (rel_about hr t w)⟩
theorem both_now (hr : Rel n T x v) (hR : cHas R n T) (day : Int32) : bI l D y qs h a ad x R v n T yX9_now wsX9_now ({ frames := 2, cells := 0, slots := 0, locals := 45 }) yX10_now wsX10_now ({ frames := 1, cells := 0, slots := 0, locals := 25 }) [.int day] :=
  ⟨_, _, ctX9_now l D y ad x R qs n T hR day (cnt (mCame v) n) (cmX x) hr.rd.1 (w_a1 hr) (rel_cm hr), ctX10_now l D y h a v day n hr.rs.2.1 hr.rs.2.2.1, fin2 (rel_now hr day)⟩
theorem both_come (hr : Rel n T x v) (hR : cHas R n T) (t : Int32) : bI l D y qs h a ad x R v n T yX9_come wsX9_come ({ frames := 2, cells := 0, slots := 0, locals := 46 }) yX10_come wsX10_come ({ frames := 3, cells := 0, slots := 0, locals := 66 }) [.int t] := by
  refine ⟨_, _, ctX9_come l D y ad x R qs n T hR t (cnt (mCame v) n) (fun c => sI (v.2.1 16 c)) (fun c => sI (v.2.1 17 c)) hr.rs.1 hr.rs.2.2.1 (w_ro hr) hr.rl.1 hr.rl.2.2.1 (w_tx hr) hr.rd.1 (fun c hc e => ?_) (w_tl hr), ctX10_come l D y h a v t n T hr.rs.2.1 hr.rs.2.2.1 hr.rl.2.1 hr.rl.2.2.1 (fun c hc => ?_), fin2 (rel_come hr t)⟩
  · have e22 : v.2.1 22 c = -1 := by
      obtain ⟨-, -, -, -, -, -, -, -, -, -, -, h7, -⟩ := hr.rc.1 c hc
      rw [← h7]; exact e
    exact Nat.lt_of_lt_of_le (cnt_lt (p := mCame v) hc (by unfold mCame; rw [e22]; rfl)) hr.rs.2.2.1
  · obtain ⟨-, h2, -⟩ := w_tl hr c hc
    obtain ⟨-, -, -, h4, -⟩ := hr.rc.1 c hc
    exact ⟨_, h2, h4.1⟩
theorem both_rows (hr : Rel n T x v) (hR : cHas R n T) (t : Int32) : bI l D y qs h a ad x R v n T yX9_rows wsX9_rows ({ frames := 2, cells := 0, slots := 0, locals := 50 }) yX10_rows wsX10_rows ({ frames := 2, cells := 0, slots := 0, locals := 47 }) [.int t] :=
  ⟨_, _, ctX9_rows l D y ad x R qs n T hR t (coX x) (w_co hr), ctX10_rows l D y h a v t n hr.rs.2.1 hr.rs.2.2.1, fin1 hr (rel_rowsC hr t)⟩
theorem both_draws (hr : Rel n T x v) (hR : cHas R n T) (t w : Int32) : bL l D y qs h a ad x R v n T yX9_draws wsX9_draws ({ frames := 3, cells := 0, slots := 0, locals := 72 }) yX10_draws wsX10_draws ({ frames := 2, cells := 0, slots := 0, locals := 47 }) [.int t, .int w] :=
  ⟨_, _, ctX9_draws l D y ad x R qs n T hR t w (coX x) (w_co hr) (w_30 hr), ctX10_draws l D y h a v t w n hr.rs.2.1 hr.rs.2.2.1, fin1l hr (rel_draws hr t w)⟩
theorem both_draw (hr : Rel n T x v) (hR : cHas R n T) (t w : Int32) (num : Int64) : bI l D y qs h a ad x R v n T yX9_draw wsX9_draw ({ frames := 4, cells := 0, slots := 0, locals := 104 }) yX10_draw wsX10_draw ({ frames := 2, cells := 0, slots := 0, locals := 47 }) [.int t, .int w, .long num] := by
  refine ⟨_, _, ctX9_draw l D y ad x R qs n T hR t w num (cnt (mCame v) n) (sI (v.1 27)) (cmX x) (coX x) (tkX v t n) hr.rd.1 (w_a1 hr) (rel_cm hr) (w_co hr) (w_30 hr) (w_q hr) (fun ht h0 => ?_), ctX10_draw l D y h a v t w num n (sI (v.1 27)) hr.rs.2.1 hr.rs.2.2.1 hr.rh.2.1.1 (fun ht h0 => ?_), fin2 (rel_draw hr t w num)⟩
  · obtain ⟨ht10, et⟩ := isC_x (n := 10) (by omega) ht
    have e25 : v.2.1 25 (sI t) = 0 := by rw [← hr.rd.2.2.2.2.2 (sI t) ht10]; exact h0
    have em : cMn (coX x) (sI t) 5 = mRows v t n := by rw [rel_rows hr ht10, ← et]
    rw [em]
    exact ⟨(rel_room hr ht e25).2, fun r hr9 w9 hw9 => rel_tkO hr ht hr9 hw9⟩
  · refine ⟨(rel_room hr ht h0).2, fun l9 hl9 r hr9 => ?_⟩
    obtain ⟨h1, h2, h3, h4, -⟩ := rel_tk hr ht hr9 hl9
    exact ⟨_, h1, by unfold mAtP; rw [h2, h3, h4]; simp⟩
theorem both_chances (hr : Rel n T x v) (hR : cHas R n T) (t w : Int32) : bL l D y qs h a ad x R v n T yX9_chances wsX9_chances ({ frames := 3, cells := 0, slots := 0, locals := 72 }) yX10_chances wsX10_chances ({ frames := 2, cells := 0, slots := 0, locals := 47 }) [.int t, .int w] := by
  refine ⟨_, _, ctX9_chances l D y ad x R qs n T hR t w (coX x) (fun c => sI (v.2.1 16 c)) hr.rs.1 hr.rs.2.2.1 (w_ro hr) (w_co hr) (w_30 hr) (fun c hc => ⟨(w_tl hr c hc).1, (w_tl hr c hc).2.1⟩) (fun c hc e => ?_), ctX10_chances l D y h a v t w n hr.rs.2.1 hr.rs.2.2.1, fin1l hr (rel_chances hr t w)⟩
  obtain ⟨-, -, -, -, -, -, -, -, -, -, -, h7, -, -, h8, -⟩ := hr.rc.1 c hc
  rcases h8 with h8 | h8
  · exact absurd (h7.trans h8) e
  · exact ⟨_, by have := h8.2; omega, h7.trans h8.1⟩
theorem rel_ways {x' : cS} {v' : mS} (hr : Rel n T x v) (hx : cKL x' x) (hv : mKL v' v) : Rel n T x' v' := by
  obtain ⟨x1, x2, x3⟩ := x'
  obtain ⟨v1, v2, v3⟩ := v'
  obtain ⟨e1, e2⟩ := hx
  obtain ⟨e3, e4, e5⟩ := hv
  dsimp only at e1 e2 e3 e4 e5
  subst e1 e2 e3 e4
  refine ⟨hr.rs, hr.rt, hr.rl, hr.rc, hr.rd, hr.rp, hr.rh, hr.rk, hr.rx, fun a b ha hb => ?_⟩
  show v3 29 _ = _
  rw [e5 29 (by decide)]
  exact hr.rw a b ha hb
theorem both_bribed (hr : Rel n T x v) (hR : cHas R n T) (t w : Int32) (bits : Int64) (m9 : Int32) : bL l D y qs h a ad x R v n T yX9_bribed wsX9_bribed ({ frames := 4, cells := 0, slots := 0, locals := 108 }) yX10_bribed wsX10_bribed ({ frames := 2, cells := 0, slots := 0, locals := 47 }) [.int t, .int w, .long bits, .int m9] :=
  ⟨_, _, ctX9_bribed l D y ad x R qs n T hR t w bits m9 (coX x) (w_co hr) (w_30 hr), ctX10_bribed l D y h a v t w bits m9 n hr.rs.2.1 hr.rs.2.2.1, fun r x' r' v' h1 h2 => ⟨by rw [h1.1, h2.1]; exact rel_bribed hr t w bits m9, rel_ways hr h1.2 h2.2⟩⟩
theorem both_chosen (hr : Rel n T x v) (hR : cHas R n T) (i : Int32) : bI l D y qs h a ad x R v n T yX9_chosen wsX9_chosen ({ frames := 1, cells := 0, slots := 0, locals := 21 }) yX10_chosen wsX10_chosen ({ frames := 1, cells := 0, slots := 0, locals := 25 }) [.int i] :=
  ⟨_, _, ctX9_chosen l D y ad x R qs n T hR i (sI (v.1 27)) (fun i => sI (v.2.1 26 i)) (w_q hr) hr.rh.2.1.2 (w_ch hr), ctX10_chosen l D y h a v i (sI (v.1 27)) hr.rh.2.1.1 hr.rh.2.1.2, fin1 hr (rel_chosen hr i)⟩
theorem both_open (hr : Rel n T x v) (hR : cHas R n T) (k q : Int32) : bI l D y qs h a ad x R v n T yX9_open wsX9_open ({ frames := 1, cells := 0, slots := 0, locals := 21 }) yX10_open wsX10_open ({ frames := 2, cells := 0, slots := 0, locals := 45 }) [.int k, .int q] :=
  ⟨_, _, ctX9_open l D y ad x R qs n T hR k q, ctX10_open l D y h a v k q, fin2 (rel_open hr k q)⟩
theorem both_lot (hr : Rel n T x v) (hR : cHas R n T) (k : Int32) : bI l D y qs h a ad x R v n T yX9_lot wsX9_lot ({ frames := 1, cells := 0, slots := 0, locals := 21 }) yX10_lot wsX10_lot ({ frames := 2, cells := 0, slots := 0, locals := 45 }) [.int k] := by
  refine ⟨_, _, ctX9_lot l D y ad x R qs n T hR k (sI (v.1 27)) (fun i => sI (v.2.1 26 i)) (fun k => sI (v.2.1 32 k)) (w_q hr) hr.rh.2.1.2 (w_ch hr) (w_ns hr), ctX10_lot l D y h a v k (fun k => sI (v.2.1 32 k)) (fun k => sI (v.2.1 31 k)) (sI (v.1 28)) (sI (v.1 27)) (w_ms hr) (fun k hk => ?_) hr.rh.2.2.2.2.2.2.1.1 hr.rh.2.2.2.2.2.2.2 hr.rh.2.1.1 hr.rh.2.1.2 (fun i hi => ?_), fin2 (rel_lot hr k)⟩
  · obtain ⟨⟨-, h2, -, -, h5⟩, -⟩ := hr.rk k hk
    exact ⟨h2.1, h5, h2.2⟩
  · obtain ⟨-, h2, h3, -⟩ := hr.rh.2.2.1 i hi
    exact ⟨_, Nat.lt_of_lt_of_le h3 hr.rs.2.2.1, h2⟩
theorem both_seat (hr : Rel n T x v) (hR : cHas R n T) (k i : Int32) : bI l D y qs h a ad x R v n T yX9_seat wsX9_seat ({ frames := 1, cells := 0, slots := 0, locals := 21 }) yX10_seat wsX10_seat ({ frames := 2, cells := 0, slots := 0, locals := 45 }) [.int k, .int i] :=
  ⟨_, _, ctX9_seat l D y ad x R qs n T hR k i (fun k => sI (v.2.1 32 k)) (w_ns hr), ctX10_seat l D y h a v k i (fun k => sI (v.2.1 32 k)) (w_ms hr), fin1 hr (rel_seat hr k i)⟩
theorem both_suit (hr : Rel n T x v) (hR : cHas R n T) (k q ac bc s : Int32) : bI l D y qs h a ad x R v n T yX9_suit wsX9_suit ({ frames := 2, cells := 0, slots := 0, locals := 50 }) yX10_suit wsX10_suit ({ frames := 2, cells := 0, slots := 0, locals := 46 }) [.int k, .int q, .int ac, .int bc, .int s] := by
  refine ⟨_, _, ctX9_suit l D y ad x R qs n T hR k q ac bc s (fun k => sI (v.2.1 32 k)) hr.rs.1 hr.rs.2.2.1 (w_ro hr) hr.rl.1 hr.rl.2.2.1 (w_tx hr) (w_ns hr) (fun k hk => ?_), ctX10_suit l D y h a v k q ac bc s n T (fun k => sI (v.2.1 32 k)) hr.rs.2.1 hr.rs.2.2.1 hr.rl.2.1 hr.rl.2.2.1 (w_ms hr), fun r x' r' v' h1 h2 => ?_⟩
  · obtain ⟨⟨h1, h2, -⟩, -⟩ := hr.rk k hk
    rw [h1, h2.1]
    intro z
    have := h2.2
    have := (nI_ltI (a := 25) (by omega) (by omega)).mp z
    omega
  by_cases ok : okSuit9 x n (fun k => sI (v.2.1 32 k)) k q ac bc s
  · have h3 := h1.1 ok
    exact fin2 (rel_suit hr k q ac bc s ok) r x' r' v' h3 h2
  · obtain ⟨e1, e2⟩ := h1.2 ok
    have ok2 : ¬ okSuit n (fun k => sI (v.2.1 32 k)) v k q ac bc s = true := fun z => ok ((okSuit_iff hr k q ac bc s).mpr z)
    rw [spSuit, if_neg ok2] at h2
    obtain ⟨e3, e4⟩ := Prod.mk.inj h2
    rw [e1, e2, e3, e4]; exact ⟨rfl, hr⟩
theorem both_speak (hr : Rel n T x v) (hR : cHas R n T) (k sd q : Int32) : bI l D y qs h a ad x R v n T yX9_speak wsX9_speak ({ frames := 1, cells := 0, slots := 0, locals := 22 }) yX10_speak wsX10_speak ({ frames := 2, cells := 0, slots := 0, locals := 45 }) [.int k, .int sd, .int q] :=
  ⟨_, _, ctX9_speak l D y ad x R qs n T hR k sd q, ctX10_speak l D y h a v k sd q (fun k => sI (v.2.1 32 k)) (w_ms hr), fin2 (rel_speak hr k sd q)⟩
theorem both_witness (hr : Rel n T x v) (hR : cHas R n T) (k : Int32) : bI l D y qs h a ad x R v n T yX9_witness wsX9_witness ({ frames := 1, cells := 0, slots := 0, locals := 21 }) yX10_witness wsX10_witness ({ frames := 2, cells := 0, slots := 0, locals := 45 }) [.int k] :=
  ⟨_, _, ctX9_witness l D y ad x R qs n T hR k, ctX10_witness l D y h a v k (fun k => sI (v.2.1 32 k)) (w_ms hr), fin2 (rel_witness hr k)⟩
theorem both_disc (hr : Rel n T x v) (hR : cHas R n T) (k c9 d : Int32) : bI l D y qs h a ad x R v n T yX9_disc wsX9_disc ({ frames := 4, cells := 0, slots := 0, locals := 85 }) yX10_disc wsX10_disc ({ frames := 2, cells := 0, slots := 0, locals := 45 }) [.int k, .int c9, .int d] :=
  ⟨_, _, ctX9_disc l D y ad x R qs n T hR k c9 d (fun k => sI (v.2.1 32 k)) (fun k => sI (x.1 20 k 5)) (w_ns hr) (w_se hr), ctX10_disc l D y h a v k c9 d (fun k => sI (v.2.1 32 k)) (w_ms hr), fin2 (rel_disc hr k c9 d)⟩
theorem both_close (hr : Rel n T x v) (hR : cHas R n T) (k : Int32) : bI l D y qs h a ad x R v n T yX9_close wsX9_close ({ frames := 3, cells := 0, slots := 0, locals := 68 }) yX10_close wsX10_close ({ frames := 2, cells := 0, slots := 0, locals := 45 }) [.int k] := by
  refine ⟨_, _, ctX9_close l D y ad x R qs n T hR k (fun k => sI (v.2.1 32 k)) (fun k => sI (x.1 20 k 5)) (fun k => sI (v.2.1 38 k)) (fun k i => sI (v.2.1 33 (25 * k + i))) hr.rs.1 hr.rs.2.2.1 (w_ro hr) hr.rl.1 hr.rl.2.2.1 (w_tx hr) (w_ns hr) (w_se hr) (fun k hk e => ?_) (fun k hk i hi => ?_), ctX10_close l D y h a v k T (fun k => sI (v.2.1 32 k)) hr.rl.2.1 hr.rl.2.2.1 (w_ms hr) (fun k hk e => ?_) (fun k hk i hi => ?_), fin2 (rel_close hr k)⟩
  · obtain ⟨-, -, -, ⟨-, g2, -⟩, ⟨g3, -⟩, -, h7, h8⟩ := hr.rk k hk
    rw [g2] at e
    obtain ⟨j1, -, j3, -⟩ := h8 e
    exact ⟨g3.trans j3.1, by have := j3.2; omega, by rw [(h7 j1).1]⟩
  · obtain ⟨-, h2, -⟩ := hr.rk k hk
    obtain ⟨j1, j2, j3⟩ := h2 i hi
    exact ⟨j1.trans j2, j3⟩
  · obtain ⟨-, -, -, -, -, -, -, h8⟩ := hr.rk k hk
    obtain ⟨-, -, j3, j4, j5, -⟩ := h8 e
    have := hr.rs.2.2.1
    exact ⟨⟨_, by have := j3.2; omega, j3.1⟩, ⟨_, by have := j4.2; omega, j4.1⟩, ⟨_, by have := j5.2; omega, j5.1⟩⟩
  · obtain ⟨-, h2, -⟩ := hr.rk k hk
    obtain ⟨-, j2, j3⟩ := h2 i hi
    exact ⟨_, Nat.lt_of_lt_of_le j3 hr.rs.2.2.1, j2⟩
theorem both_court (hr : Rel n T x v) (hR : cHas R n T) (k w : Int32) : bI l D y qs h a ad x R v n T yX9_court wsX9_court ({ frames := 4, cells := 0, slots := 0, locals := 84 }) yX10_court wsX10_court ({ frames := 2, cells := 0, slots := 0, locals := 45 }) [.int k, .int w] :=
  ⟨_, _, ctX9_court l D y ad x R qs n T hR k w (fun k => sI (x.1 20 k 5)) (w_se hr), ctX10_court l D y h a v k w (fun k => sI (v.2.1 32 k)) (w_ms hr), fin1 hr (rel_court hr k w)⟩
theorem both_count (hr : Rel n T x v) (hR : cHas R n T) (w : Int32) : bI l D y qs h a ad x R v n T yX9_count wsX9_count ({ frames := 0, cells := 0, slots := 0, locals := 0 }) yX10_count wsX10_count ({ frames := 0, cells := 0, slots := 0, locals := 0 }) [.int w] :=
  ⟨_, _, ctX9_count l D y ad x R qs n T hR w, ctX10_count l D y h a v w n hr.rs.2.1 hr.rs.2.2.1, fin1 hr (rel_count hr w)⟩
theorem both_citizen (hr : Rel n T x v) (hR : cHas R n T) (t w b : Int32) : ∃ (P1 : Int32 → cS × (Nat → Nat → Nat) × List (Nat × Nat) → Prop) (P2 : Int32 → mS → Prop), aMi l yX9_citizen wsX9_citizen ({ frames := 2, cells := 1, slots := 10, locals := 60 }) 1 10 D y ad x R qs [.ref (ad 0 0), .int t, .int w, .int b] P1 ∧ mMi l yX10_citizen wsX10_citizen ({ frames := 1, cells := 0, slots := 0, locals := 25 }) D y h a v [.ref h, .int t, .int w, .int b] P2 ∧ ∀ (r : Int32) (u : cS × (Nat → Nat → Nat) × List (Nat × Nat)) (r' : Int32) (v' : mS), P1 r u → P2 r' v' → r = r' ∧ bE ad u v' := by
  refine ⟨_, _, ctX9_citizen l D y ad x R qs n T hR t w b hr.rs.1 hr.rs.2.2.1 (w_ro hr) hr.rc.2.2, ctX10_citizen l D y h a v t w b n hr.rs.2.1 hr.rs.2.2.1, fun r u r' v' h1 h2 => ?_⟩
  by_cases ok : okCit9 x t w b
  · have ok2 := (okCit_iff hr t w b).mp ok
    rw [spCitizen, if_pos ok2] at h2
    obtain ⟨g1, g2⟩ := h1.2 ok
    by_cases e : n = 150
    · rw [if_pos e] at h2
      obtain ⟨e1, rfl⟩ := g1 e
      obtain ⟨e3, rfl⟩ := Prod.mk.inj h2
      exact ⟨by rw [e1, e3], rfl, n, T, hR, hr⟩
    · rw [if_neg e] at h2
      obtain ⟨e1, q, rfl⟩ := g2 (by have := hr.rs.2.2.1; omega)
      obtain ⟨e3, rfl⟩ := Prod.mk.inj h2
      exact ⟨by rw [e1, e3], show up2 ad 24 n q 0 0 = ad 0 0 from up2_n (fun z => absurd z.1 (show ¬ 0 = 24 by decide)), n + 1, T, cHas_c hR, rel_cit1 hr t w b (by have := hr.rs.2.2.1; omega) ok.1 ok.2.1⟩
  · have ok2 : ¬ (isT t && (inR 0 4 w && inR (-40000) (v.1 14 - 1).toInt b)) = true := fun z => ok ((okCit_iff hr t w b).mpr z)
    rw [spCitizen, if_neg ok2] at h2
    obtain ⟨e1, rfl⟩ := h1.1 ok
    obtain ⟨e3, rfl⟩ := Prod.mk.inj h2
    exact ⟨by rw [e1, e3], rfl, n, T, hR, hr⟩
theorem both_laws {q qv : Nat} (hr : Rel n T x v) (hR : cHas R n T) (day : Int32) : ∃ (P1 : Int32 → cS × (Nat → Nat → Nat) × List (Nat × Nat) → Prop) (P2 : Int32 → mS → Prop), aMi l yX9_laws wsX9_laws ({ frames := 10, cells := 2, slots := 53, locals := 240 }) 2 53 D y ad x R qs [.ref (ad 0 0), .int day] P1 ∧ nMi l yX10_laws wsX10_laws ({ frames := 10, cells := 0, slots := 0, locals := 222 }) D y h a q qv v [.ref h, .int day] P2 ∧ ∀ (r : Int32) (u : cS × (Nat → Nat → Nat) × List (Nat × Nat)) (r' : Int32) (v' : mS), P1 r u → P2 r' v' → r = r' ∧ bE ad u v' := by
  refine ⟨_, _, ctX9_laws l D y ad x R qs n T hR day (sI (v.1 1)) (hr.rt.1.trans hr.rt.2.1.1) hr.rt.2.1.2 hr.rl.1 hr.rl.2.2.1 hr.rc.2.2, ctX10_laws l D y h a q qv v day (sI (v.1 1)) T hr.rt.2.1.1 hr.rt.2.1.2 hr.rl.2.1 hr.rl.2.2.1, fun r u r' v' h1 h2 => ?_⟩
  obtain ⟨k1, k2⟩ := rel_laws hr day
  rw [← h2] at k1 k2
  by_cases ok : ¬ day < x.1 0 0 8 ∧ day ≤ 20000
  · obtain ⟨g1, g2⟩ := h1.2 ok
    obtain ⟨j1, j2⟩ := k2 ok
    by_cases e0 : (rdT (sI (v.1 1)) x).1 = 0
    · obtain ⟨e1, rfl⟩ := g1 e0
      obtain ⟨e2, hr2⟩ := j1 e0
      exact ⟨e1.trans e2.symm, rfl, n, T, hR, hr2⟩
    · obtain ⟨g3, g4⟩ := g2 e0
      obtain ⟨j3, j4⟩ := j2 e0
      by_cases e15 : T = 15
      · obtain ⟨e1, rfl⟩ := g3 e15
        obtain ⟨e2, hr2⟩ := j3 e15
        exact ⟨e1.trans e2.symm, rfl, n, T, hR, hr2⟩
      · have h15 : T < 15 := by have := hr.rl.2.2.1; omega
        obtain ⟨e1, q9, a9, rfl⟩ := g4 h15
        obtain ⟨e2, hr2⟩ := j4 h15
        exact ⟨e1.trans e2.symm, show up2 (up2 ad 25 (T + 2) q9) 26 (T + 2) a9 0 0 = ad 0 0 from (up2_n (fun z => absurd z.1 (show ¬ 0 = 26 by decide))).trans (up2_n (fun z => absurd z.1 (show ¬ 0 = 25 by decide))), n, T + 1, cHas_t hR, hr2⟩
  · obtain ⟨e1, rfl⟩ := h1.1 ok
    obtain ⟨e2, hr2⟩ := k1 ok
    exact ⟨e1.trans e2.symm, rfl, n, T, hR, hr2⟩
end LB
