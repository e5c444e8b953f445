/-! THE TWO OBJECTS AT THEIR BEGINNING -/
def mB0 : mB := fun _ _ => 0
def iT (w u : zW) (x A O T : Nat) (tk : Nat → Nat) (k : Nat) : Prop :=
  (zK u x = 6 ∧ zI u 503 x = 0 ∧ zI u 504 x = 0 ∧ zI u 505 x = 0 ∧ zP u 500 x = some A ∧ zP u 501 x = some O ∧ zP u 502 x = some T) ∧ (zK u A = 12 ∧ zN u A = 10 ∧ zK u O = 11 ∧ zN u O = 8 ∧ zK u T = 13 ∧ zN u T = 3) ∧
  (∀ i, zQ u A i = none) ∧ (∀ i, zQ u O i = none) ∧ (∀ j, j < k → zQ u T j = some (tk j) ∧ zK u (tk j) = 5 ∧ zI u 400 (tk j) = 0 ∧ zI u 401 (tk j) = 0) ∧ (∀ i j, i < k → j < k → tk i = tk j → i = j) ∧ cFr w u
theorem it_start {w : zW} {x A O T : Nat} (k_x : zK w x = 6) (i503 : zI w 503 x = 0) (i504 : zI w 504 x = 0) (i505 : zI w 505 x = 0) (hA : zK w A = 0) (hO : zK (zsP (zNew w A 12 10) 500 x (some A)) O = 0) (hT : zK (zsP (zNew (zsP (zNew w A 12 10) 500 x (some A)) O 11 8) 501 x (some O)) T = 0) :
    iT w (zsP (zNew (zsP (zNew (zsP (zNew w A 12 10) 500 x (some A)) O 11 8) 501 x (some O)) T 13 3) 502 x (some T)) x A O T (fun _ => 0) 0 := by
  have nA := zNew_new (w := w) (q := A) (k := 12) (n := 10)
  have nO := zNew_new (w := zsP (zNew w A 12 10) 500 x (some A)) (q := O) (k := 11) (n := 8)
  have nT := zNew_new (w := zsP (zNew (zsP (zNew w A 12 10) 500 x (some A)) O 11 8) 501 x (some O)) (q := T) (k := 13) (n := 3)
  have o1 := zNew_old (k := 12) (n := 10) hA (zk0 k_x (by decide))
  have k1 : zK (zsP (zNew w A 12 10) 500 x (some A)) x = 6 := o1.2.1.trans k_x
  have kA1 : zK (zsP (zNew w A 12 10) 500 x (some A)) A = 12 := nA.1
  have o2 := zNew_old (k := 11) (n := 8) hO (zk0 k1 (by decide))
  have o2A := zNew_old (k := 11) (n := 8) hO (zk0 kA1 (by decide))
  have k2 : zK (zsP (zNew (zsP (zNew w A 12 10) 500 x (some A)) O 11 8) 501 x (some O)) x = 6 := o2.2.1.trans k1
  have kA2 : zK (zsP (zNew (zsP (zNew w A 12 10) 500 x (some A)) O 11 8) 501 x (some O)) A = 12 := o2A.2.1.trans kA1
  have kO2 : zK (zsP (zNew (zsP (zNew w A 12 10) 500 x (some A)) O 11 8) 501 x (some O)) O = 11 := nO.1
  have o3 := zNew_old (k := 13) (n := 3) hT (zk0 k2 (by decide))
  have o3A := zNew_old (k := 13) (n := 3) hT (zk0 kA2 (by decide))
  have o3O := zNew_old (k := 13) (n := 3) hT (zk0 kO2 (by decide))
  have I0 : ∀ g, zI w g x = 0 → zI (zsP (zNew (zsP (zNew (zsP (zNew w A 12 10) 500 x (some A)) O 11 8) 501 x (some O)) T 13 3) 502 x (some T)) g x = 0 := fun g h => (o3.2.2.1 g).trans ((o2.2.2.1 g).trans ((o1.2.2.1 g).trans h))
  refine ⟨⟨o3.2.1.trans k2, I0 503 i503, I0 504 i504, I0 505 i505, ?_, ?_, z2_same (zNew (zsP (zNew (zsP (zNew w A 12 10) 500 x (some A)) O 11 8) 501 x (some O)) T 13 3).2.2.1 502 x (some T)⟩, ⟨o3A.2.1.trans kA2, o3A.2.2.2.2.1.trans (o2A.2.2.2.2.1.trans nA.2.2.2.1), o3O.2.1.trans kO2, o3O.2.2.2.2.1.trans nO.2.2.2.1, nT.1, nT.2.2.2.1⟩, fun i => ?_, fun i => ?_, fun j hj => absurd hj (Nat.not_lt_zero j), fun i j hi => absurd hi (Nat.not_lt_zero i), ?_⟩
  · exact (o3.2.2.2.1 500).trans ((o2.2.2.2.1 500).trans (z2_same (zNew w A 12 10).2.2.1 500 x (some A)))
  · exact (o3.2.2.2.1 501).trans (z2_same (zNew (zsP (zNew w A 12 10) 500 x (some A)) O 11 8).2.2.1 501 x (some O))
  · exact (congrFun o3A.2.2.2.2.2.2.1 i).trans ((congrFun o2A.2.2.2.2.2.2.1 i).trans (nA.2.2.2.2.2.1 i))
  · exact (congrFun o3O.2.2.2.2.2.2.1 i).trans (nO.2.2.2.2.2.1 i)
  · exact cP (k := 6) (cN (cP (k := 6) (cN (cP (k := 6) (cN (cFr_rf w) hA) (o1.2.1.trans k_x) (by decide)) hO) (o2.2.1.trans k1) (by decide)) hT) (o3.2.1.trans k2) (by decide)
theorem it_step {w u : zW} {x A O T : Nat} {tk : Nat → Nat} {k q : Nat} (h : iT w u x A O T tk k) (hq : zK u q = 0) : iT w (zsQ (zNew u q 5 0) T k (some q)) x A O T (fun j => if j = k then q else tk j) (k + 1) := by
  obtain ⟨⟨k_x, i503, i504, i505, p500, p501, p502⟩, ⟨k_A, n_A, k_O, n_O, k_T, n_T⟩, qA, qO, qT, hin, hF⟩ := h
  have nq := zNew_new (w := u) (q := q) (k := 5) (n := 0)
  have ox := zNew_old (k := 5) (n := 0) hq (zk0 k_x (by decide))
  have oA := zNew_old (k := 5) (n := 0) hq (zk0 k_A (by decide))
  have oO := zNew_old (k := 5) (n := 0) hq (zk0 k_O (by decide))
  have oT := zNew_old (k := 5) (n := 0) hq (zk0 k_T (by decide))
  have dA : A ≠ T := by intro e; rw [e, k_T] at k_A; omega
  have dO : O ≠ T := by intro e; rw [e, k_T] at k_O; omega
  have dq : ∀ j, j < k → tk j ≠ q := by intro j hj e; have := (qT j hj).2.1; rw [e, hq] at this; omega
  refine ⟨⟨ox.2.1.trans k_x, (ox.2.2.1 503).trans i503, (ox.2.2.1 504).trans i504, (ox.2.2.1 505).trans i505, (ox.2.2.2.1 500).trans p500, (ox.2.2.2.1 501).trans p501, (ox.2.2.2.1 502).trans p502⟩, ⟨oA.2.1.trans k_A, oA.2.2.2.2.1.trans n_A, oO.2.1.trans k_O, oO.2.2.2.2.1.trans n_O, oT.2.1.trans k_T, oT.2.2.2.2.1.trans n_T⟩, fun i => ?_, fun i => ?_, fun j hj => ?_, fun i j hi hj e => ?_, cQ (cN hF hq)⟩
  · exact (congrFun (z2_ne1 (zNew u q 5 0).2.2.2.2.2.1 k (some q) dA) i).trans ((congrFun oA.2.2.2.2.2.2.1 i).trans (qA i))
  · exact (congrFun (z2_ne1 (zNew u q 5 0).2.2.2.2.2.1 k (some q) dO) i).trans ((congrFun oO.2.2.2.2.2.2.1 i).trans (qO i))
  · show z2 (zNew u q 5 0).2.2.2.2.2.1 T k (some q) T j = some (if j = k then q else tk j) ∧ zK (zNew u q 5 0) (if j = k then q else tk j) = 5 ∧ zI (zNew u q 5 0) 400 (if j = k then q else tk j) = 0 ∧ zI (zNew u q 5 0) 401 (if j = k then q else tk j) = 0
    rw [z2_at]
    by_cases e : j = k
    · rw [if_pos e, if_pos e]; exact ⟨rfl, nq.1, nq.2.1 400, nq.2.1 401⟩
    · rw [if_neg e, if_neg e]
      obtain ⟨a1, a2, a3, a4⟩ := qT j (by omega)
      have ot := zNew_old (k := 5) (n := 0) hq (zk0 a2 (by decide))
      exact ⟨(congrFun oT.2.2.2.2.2.2.1 j).trans a1, ot.2.1.trans a2, (ot.2.2.1 400).trans a3, (ot.2.2.1 401).trans a4⟩
  · have e' : (if i = k then q else tk i) = (if j = k then q else tk j) := e
    by_cases ei : i = k
    · rw [if_pos ei] at e'
      by_cases ej : j = k
      · omega
      · rw [if_neg ej] at e'; exact absurd e'.symm (dq j (by omega))
    · rw [if_neg ei] at e'
      by_cases ej : j = k
      · rw [if_pos ej] at e'; exact absurd e' (dq i (by omega))
      · rw [if_neg ej] at e'; exact hin i j (by omega) (by omega) e'
theorem it_end {w u : zW} {x A O T : Nat} {tk : Nat → Nat} (h : iT w u x A O T tk 3) : Rep u x mB0 ∧ cFr w u := by
  obtain ⟨⟨k_x, i503, i504, i505, p500, p501, p502⟩, ⟨k_A, n_A, k_O, n_O, k_T, n_T⟩, qA, qO, qT, hin, hF⟩ := h
  have z0 : ∀ i, ¬ i < nP mB0 := fun i => Nat.not_lt_zero i
  have z1 : ∀ i, ¬ i < nO mB0 := fun i => Nat.not_lt_zero i
  refine ⟨⟨fun t j => if t = 6 then tk j else if j = 0 then A else if j = 1 then O else T, ?_⟩, hF⟩
  refine ⟨⟨⟨k_x, i503, i504, i505⟩, ⟨p500, p501, p502⟩, k_A, n_A, k_O, n_O, k_T, n_T⟩, ⟨fun i hi => ?_, fun i hi => ?_, fun k hk => (qT k hk).1⟩, fun k hk => ⟨(qT k hk).2.1, (qT k hk).2.2.1, (qT k hk).2.2.2⟩, fun i hi => absurd hi (z0 i), ⟨fun i hi => absurd hi (z0 i), fun i hi => absurd hi (z0 i), fun i hi => absurd hi (z0 i), fun i hi => absurd hi (z0 i), fun i hi => absurd hi (z0 i), fun i hi => absurd hi (z0 i), fun i hi => absurd hi (z0 i), fun i hi => absurd hi (z0 i), fun i hi => absurd hi (z0 i), fun i hi => absurd hi (z0 i), fun i hi => absurd hi (z0 i)⟩, fun i hi => absurd hi (z0 i), ⟨fun i hi => absurd hi (z0 i), fun i hi => absurd hi (z0 i), fun i hi => absurd hi (z0 i), fun i hi => absurd hi (z0 i)⟩, ⟨fun i hi => absurd hi (z0 i), fun i hi => absurd hi (z0 i)⟩, fun j hj => absurd hj (z1 j), ⟨fun t ht i j hi => absurd hi (z0 i), fun i j k n hi => absurd hi (z0 i), fun i j hi => absurd hi (z1 i), fun i j hi hj e => hin i j hi hj e⟩⟩
  · rw [if_neg (z0 i)]; exact qA i
  · rw [if_neg (z1 i)]; exact qO i
theorem J_0 : mJ mB0 := by
  have z0 : ∀ i, ¬ i < nP mB0 := fun i => Nat.not_lt_zero i
  have z1 : ∀ i, ¬ i < nO mB0 := fun i => Nat.not_lt_zero i
  exact ⟨⟨⟨Nat.zero_le _, rfl⟩, ⟨Nat.zero_le _, rfl⟩, fun i hi => absurd hi (z0 i), fun i hi => absurd hi (z1 i)⟩, ⟨fun i hi => absurd hi (z0 i), fun i hi => absurd hi (z1 i)⟩, fun i _ => ⟨rfl, rfl, rfl, rfl, rfl, rfl, rfl, rfl, rfl, fun _ _ => rfl⟩⟩
/-- all but the cell y is as it was -/
def zOldX (y : Nat) (w w' : zW) : Prop := ∀ b, zK w b ≠ 0 → b ≠ y → zK w' b = zK w b ∧ (∀ g, zI w' g b = zI w g b) ∧ (∀ g, zP w' g b = zP w g b) ∧ zN w' b = zN w b ∧ zR w' b = zR w b ∧ zQ w' b = zQ w b ∧ zJ w' b = zJ w b
def mIn (w u : zW) (y n : Nat) (r : Nat → Nat) : Prop := zK u y = 7 ∧ (∀ f, mNum f → zI u (600 + f) y = 0) ∧ (∀ f, mArr f → f < n → zP u (600 + f) y = some (r f) ∧ zK u (r f) = mKd f ∧ zN u (r f) = mLen f ∧ (∀ j, zR u (r f) j = 0)) ∧ (∀ f g, mArr f → mArr g → f < n → g < n → r f = r g → f = g) ∧ zOldX y w u
theorem mIn_start {w : zW} {y : Nat} (k_y : zK w y = 7) (hz : ∀ g, zI w g y = 0) : mIn w w y 2 (fun _ => 0) :=
  ⟨k_y, fun f _ => hz _, fun f hf h2 => absurd hf.1 (by omega), fun f g hf hg h2 => absurd hf.1 (by omega), fun b _ _ => ⟨rfl, fun _ => rfl, fun _ => rfl, rfl, rfl, rfl, rfl⟩⟩
theorem mIn_skip {w u : zW} {y : Nat} {r : Nat → Nat} (h : mIn w u y 22 r) : mIn w u y 23 r := by
  obtain ⟨h1, h2, h3, h4, h5⟩ := h
  have nf : ∀ f, mArr f → f < 23 → f < 22 := fun f hf h => by have := hf.2.2; omega
  exact ⟨h1, h2, fun f hf h => h3 f hf (nf f hf h), fun f g hf hg h h' => h4 f g hf hg (nf f hf h) (nf g hg h'), h5⟩
theorem mIn_step {w u : zW} {y n q kd len : Nat} {r : Nat → Nat} (h : mIn w u y n r) (hq : zK u q = 0) (hkd : kd = mKd n) (hln : len = mLen n) : mIn w (zsP (zNew u q kd len) (600 + n) y (some q)) y (n + 1) (fun f => if f = n then q else r f) := by
  obtain ⟨h1, h2, h3, h4, h5⟩ := h
  subst hkd; subst hln
  have nq := zNew_new (w := u) (q := q) (k := mKd n) (n := mLen n)
  have oy := zNew_old (k := mKd n) (n := mLen n) hq (zk0 h1 (by decide))
  have dq : ∀ f, mArr f → f < n → r f ≠ q := by
    intro f hf hn e
    have := (h3 f hf hn).2.1
    rw [e, hq] at this
    rcases mKd_89 f with h | h <;> omega
  refine ⟨oy.2.1.trans h1, fun f hf => (oy.2.2.1 _).trans (h2 f hf), fun f hf hn => ?_, fun f g hf hg hn hm e => ?_, fun b hb hy => ?_⟩
  · show z2 (zNew u q (mKd n) (mLen n)).2.2.1 (600 + n) y (some q) (600 + f) y = some (if f = n then q else r f) ∧ zK (zNew u q (mKd n) (mLen n)) (if f = n then q else r f) = mKd f ∧ zN (zNew u q (mKd n) (mLen n)) (if f = n then q else r f) = mLen f ∧ ∀ j, zR (zNew u q (mKd n) (mLen n)) (if f = n then q else r f) j = 0
    by_cases e : f = n
    · subst e; rw [if_pos rfl, z2_same]; exact ⟨rfl, nq.1, nq.2.2.2.1, nq.2.2.2.2.1⟩
    · obtain ⟨a1, a2, a3, a4⟩ := h3 f hf (by omega)
      have a2' : zK u (r f) ≠ 0 := by rw [a2]; rcases mKd_89 f with h | h <;> omega
      have o := zNew_old (k := mKd n) (n := mLen n) hq a2'
      rw [if_neg e, z2_ne1 _ _ _ (by omega : 600 + f ≠ 600 + n)]
      exact ⟨(oy.2.2.2.1 _).trans a1, o.2.1.trans a2, o.2.2.2.2.1.trans a3, fun j => (congrFun o.2.2.2.2.2.1 j).trans (a4 j)⟩
  · have e' : (if f = n then q else r f) = (if g = n then q else r g) := e
    by_cases ei : f = n
    · rw [if_pos ei] at e'
      by_cases ej : g = n
      · omega
      · rw [if_neg ej] at e'; exact absurd e'.symm (dq g hg (by omega))
    · rw [if_neg ei] at e'
      by_cases ej : g = n
      · rw [if_pos ej] at e'; exact absurd e' (dq f hf (by omega))
      · rw [if_neg ej] at e'; exact h4 f g hf hg (by omega) (by omega) e'
  · obtain ⟨a1, a2, a3, a4, a5, a6, a7⟩ := h5 b hb hy
    obtain ⟨_, b1, b2, b3, b4, b5, b6, b7⟩ := zNew_old (k := mKd n) (n := mLen n) hq (show zK u b ≠ 0 by rw [a1]; exact hb)
    exact ⟨b1.trans a1, fun g => (b2 g).trans (a2 g), fun g => (z2_ne2 (zNew u q (mKd n) (mLen n)).2.2.1 (600 + n) g (some q) hy).trans ((b3 g).trans (a3 g)), b4.trans a4, b5.trans a5, b6.trans a6, b7.trans a7⟩
theorem mIn_end {w u : zW} {y : Nat} {r : Nat → Nat} (h : mIn w u y 27 r) : mRep u y r mB0 ∧ zOldX y w u := by
  obtain ⟨h1, h2, h3, h4, h5⟩ := h
  have nf : ∀ f, mArr f → f < 27 := fun f hf => by have := hf.2.1; omega
  refine ⟨⟨h1, h2, fun f hf => ?_, fun f g hf hg e => h4 f g hf hg (nf f hf) (nf g hg) e⟩, h5⟩
  obtain ⟨a1, a2, a3, a4⟩ := h3 f hf (nf f hf)
  exact ⟨a1, a2, a3, funext a4⟩
