/-! THE TWO OBJECTS AT THEIR BEGINNING -/
def mB0 : mB := fun _ _ => 0
def iT (w u : zW) (x A O T : Nat) (tk : Nat → Nat) (k : Nat) : Prop :=
  (zK u x = 6 ∧ zI u 503 x = 0 ∧ zI u 504 x = 0 ∧ zI u 505 x = 0 ∧ zP u 500 x = some A ∧ zP u 501 x = some O ∧ zP u 502 x = some T) ∧ (zK u A = 12 ∧ zN u A = 10 ∧ zK u O = 11 ∧ zN u O = 8 ∧ zK u T = 13 ∧ zN u T = 3) ∧
  (∀ i, zQ u A i = none) ∧ (∀ i, zQ u O i = none) ∧ (∀ j, j < k → zQ u T j = some (tk j) ∧ zK u (tk j) = 5 ∧ zI u 400 (tk j) = 0 ∧ zI u 401 (tk j) = 0) ∧ (∀ i j, i < k → j < k → tk i = tk j → i = j) ∧ cFr w u
theorem it_start {w : zW} {x A O T : Nat} (k_x : zK w x = 6) (i503 : zI w 503 x = 0) (i504 : zI w 504 x = 0) (i505 : zI w 505 x = 0) (hA : zK w A = 0) (hO : zK (zsP (zNew w A 12 10) 500 x (some A)) O = 0) (hT : zK (zsP (zNew (zsP (zNew w A 12 10) 500 x (some A)) O 11 8) 501 x (some O)) T = 0) :
    iT w (zsP (zNew (zsP (zNew (zsP (zNew w A 12 10) 500 x (some A)) O 11 8) 501 x (some O)) T 13 3) 502 x (some T)) x A O T (fun _ => 0) 0 := by
  have nA := zNew_new (w := w) (q := A) (k := 12) (n := 10)
  have nO := zNew_new (w := zsP (zNew w A 12 10) 500 x (some A)) (q := O) (k := 11) (n := 8)
  have nT := zNew_new (w := zsP (zNew (zsP (zNew w A 12 10) 500 x (some A)) O 11 8) 501 x (some O)) (q := T) (k := 13) (n := 3)
  have o1 := zNew_old (k := 12) (n := 10) hA (zk0 k_x (by decide))
  have k1 : zK (zsP (zNew w A 12 10) 500 x (some A)) x = 6 := o1.2.1.trans k_x
  have kA1 : zK (zsP (zNew w A 12 10) 500 x (some A)) A = 12 := nA.1
  have o2 := zNew_old (k := 11) (n := 8) hO (zk0 k1 (by decide))
  have o2A := zNew_old (k := 11) (n := 8) hO (zk0 kA1 (by decide))
  have k2 : zK (zsP (zNew (zsP (zNew w A 12 10) 500 x (some A)) O 11 8) 501 x (some O)) x = 6 := o2.2.1.trans k1
  have kA2 : zK (zsP (zNew (zsP (zNew w A 12 10) 500 x (some A)) O 11 8) 501 x (some O)) A = 12 := o2A.2.1.trans kA1
  have kO2 : zK (zsP (zNew (zsP (zNew w A 12 10) 500 x (some A)) O 11 8) 501 x (some O)) O = 11 := nO.1
  have o3 := zNew_old (k := 13) (n := 3) hT (zk0 k2 (by decide))
  have o3A := zNew_old (k := 13) (n := 3) hT (zk0 kA2 (by decide))
  have o3O := zNew_old (k := 13) (n := 3) hT (zk0 kO2 (by decide))
  have I0 : ∀ g, zI w g x = 0 → zI (zsP (zNew (zsP (zNew (zsP (zNew w A 12 10) 500 x (some A)) O 11 8) 501 x (some O)) T 13 3) 502 x (some T)) g x = 0 := fun g h => (o3.2.2.1 g).trans ((o2.2.2.1 g).trans ((o1.2.2.1 g).trans h))
  refine ⟨⟨o3.2.1.trans k2, I0 503 i503, I0 504 i504, I0 505 i505, ?_, ?_, z2_same (zNew (zsP (zNew (zsP (zNew w A 12 10) 500 x (some A)) O 11 8) 501 x (some O)) T 13 3).2.2.1 502 x (some T)⟩, ⟨o3A.2.1.trans kA2, o3A.2.2.2.2.1.trans (o2A.2.2.2.2.1.trans nA.2.2.2.1), o3O.2.1.trans kO2, o3O.2.2.2.2.1.trans nO.2.2.2.1, nT.1, nT.2.2.2.1⟩, fun i => ?_, fun i => ?_, fun j hj => absurd hj (Nat.not_lt_zero j), fun i j hi => absurd hi (Nat.not_lt_zero i), ?_⟩
  · exact (o3.2.2.2.1 500).trans ((o2.2.2.2.1 500).trans (z2_same (zNew w A 12 10).2.2.1 500 x (some A)))
  · exact (o3.2.2.2.1 501).trans (z2_same (zNew (zsP (zNew w A 12 10) 500 x (some A)) O 11 8).2.2.1 501 x (some O))
  · exact (congrFun o3A.2.2.2.2.2.2.1 i).trans ((congrFun o2A.2.2.2.2.2.2.1 i).trans (nA.2.2.2.2.2.1 i))
  · exact (congrFun o3O.2.2.2.2.2.2.1 i).trans (nO.2.2.2.2.2.1 i)
  · exact cP (k := 6) (cN (cP (k := 6) (cN (cP (k := 6) (cN (cFr_rf w) hA) (o1.2.1.trans k_x) (by decide)) hO) (o2.2.1.trans k1) (by decide)) hT) (o3.2.1.trans k2) (by decide)
theorem it_step {w u : zW} {x A O T : Nat} {tk : Nat → Nat} {k q : Nat} (h : iT w u x A O T tk k) (hq : zK u q = 0) : iT w (zsQ (zNew u q 5 0) T k (some q)) x A O T (fun j => if j = k then q else tk j) (k + 1) := by
  obtain ⟨⟨k_x, i503, i504, i505, p500, p501, p502⟩, ⟨k_A, n_A, k_O, n_O, k_T, n_T⟩, qA, qO, qT, hin, hF⟩ := h
  have nq := zNew_new (w := u) (q := q) (k := 5) (n := 0)
  have ox := zNew_old (k := 5) (n := 0) hq (zk0 k_x (by decide))
  have oA := zNew_old (k := 5) (n := 0) hq (zk0 k_A (by decide))
  have oO := zNew_old (k := 5) (n := 0) hq (zk0 k_O (by decide))
  have oT := zNew_old (k := 5) (n := 0) hq (zk0 k_T (by decide))
  have dA : A ≠ T := by intro e; rw [e, k_T] at k_A; omega
  have dO : O ≠ T := by intro e; rw [e, k_T] at k_O; omega
  have dq : ∀ j, j < k → tk j ≠ q := by intro j hj e; have := (qT j hj).2.1; rw [e, hq] at this; omega
  refine ⟨⟨ox.2.1.trans k_x, (ox.2.2.1 503).trans i503, (ox.2.2.1 504).trans i504, (ox.2.2.1 505).trans i505, (ox.2.2.2.1 500).trans p500, (ox.2.2.2.1 501).trans p501, (ox.2.2.2.1 502).trans p502⟩, ⟨oA.2.1.trans k_A, oA.2.2.2.2.1.trans n_A, oO.2.1.trans k_O, oO.2.2.2.2.1.trans n_O, oT.2.1.trans k_T, oT.2.2.2.2.1.trans n_T⟩, fun i => ?_, fun i => ?_, fun j hj => ?_, fun i j hi hj e => ?_, cQ (cN hF hq)⟩
  · exact (congrFun (z2_ne1 (zNew u q 5 0).2.2.2.2.2.1 k (some q) dA) i).trans ((congrFun oA.2.2.2.2.2.2.1 i).trans (qA i))
  · exact (congrFun (z2_ne1 (zNew u q 5 0).2.2.2.2.2.1 k (some q) dO) i).trans ((congrFun oO.2.2.2.2.2.2.1 i).trans (qO i))
  · show z2 (zNew u q 5 0).2.2.2.2.2.1 T k (some q) T j = some (if j = k then q else tk j) ∧ zK (zNew u q 5 0) (if j = k then q else tk j) = 5 ∧ zI (zNew u q 5 0) 400 (if j = k then q else tk j) = 0 ∧ zI (zNew u q 5 0) 401 (if j = k then q else tk j) = 0
    rw [z2_at]
    by_cases e : j = k
    · rw [if_pos e, if_pos e]; exact ⟨rfl, nq.1, nq.2.1 400, nq.2.1 401⟩
    · rw [if_neg e, if_neg e]
      obtain ⟨a1, a2, a3, a4⟩ := qT j (by omega)
      have ot := zNew_old (k := 5) (n := 0) hq (zk0 a2 (by decide))
      exact ⟨(congrFun oT.2.2.2.2.2.2.1 j).trans a1, ot.2.1.trans a2, (ot.2.2.1 400).trans a3, (ot.2.2.1 401).trans a4⟩
  · have e' : (if i = k then q else tk i) = (if j = k then q else tk j) := e
    by_cases ei : i = k
    · rw [if_pos ei] at e'
      by_cases ej : j = k
      · omega
      · rw [if_neg ej] at e'; exact absurd e'.symm (dq j (by omega))
    · rw [if_neg ei] at e'
      by_cases ej : j = k
      · rw [if_pos ej] at e'; exact absurd e' (dq i (by omega))
      · rw [if_neg ej] at e'; exact hin i j (by omega) (by omega) e'
theorem it_end {w u : zW} {x A O T : Nat} {tk : Nat → Nat} (h : iT w u x A O T tk 3) : Rep u x mB0 ∧ cFr w u := by
  obtain ⟨⟨k_x, i503, i504, i505, p500, p501, p502⟩, ⟨k_A, n_A, k_O, n_O, k_T, n_T⟩, qA, qO, qT, hin, hF⟩ := h
  have z0 : ∀ i, ¬ i < nP mB0 := fun i => Nat.not_lt_zero i
  have z1 : ∀ i, ¬ i < nO mB0 := fun i => Nat.not_lt_zero i
  refine ⟨⟨fun t j => if t = 6 then tk j else if j = 0 then A else if j = 1 then O else T, ?_⟩, hF⟩
  refine ⟨⟨⟨k_x, i503, i504, i505⟩, ⟨p500, p501, p502⟩, k_A, n_A, k_O, n_O, k_T, n_T⟩, ⟨fun i hi => ?_, fun i hi => ?_, fun k hk => (qT k hk).1⟩, fun k hk => ⟨(qT k hk).2.1, (qT k hk).2.2.1, (qT k hk).2.2.2⟩, fun i hi => absurd hi (z0 i), ⟨fun i hi => absurd hi (z0 i), fun i hi => absurd hi (z0 i), fun i hi => absurd hi (z0 i), fun i hi => absurd hi (z0 i), fun i hi => absurd hi (z0 i), fun i hi => absurd hi (z0 i), fun i hi => absurd hi (z0 i), fun i hi => absurd hi (z0 i), fun i hi => absurd hi (z0 i), fun i hi => absurd hi (z0 i), fun i hi => absurd hi (z0 i)⟩, fun i hi => absurd hi (z0 i), ⟨fun i hi => absurd hi (z0 i), fun i hi => absurd hi (z0 i), fun i hi => absurd hi (z0 i), fun i hi => absurd hi (z0 i)⟩, ⟨fun i hi => absurd hi (z0 i), fun i hi => absurd hi (z0 i)⟩, fun j hj => absurd hj (z1 j), ⟨fun t ht i j hi => absurd hi (z0 i), fun i j k n hi => absurd hi (z0 i), fun i j hi => absurd hi (z1 i), fun i j hi hj e => hin i j hi hj e⟩⟩
  · rw [if_neg (z0 i)]; exact qA i
  · rw [if_neg (z1 i)]; exact qO i
theorem J_0 : mJ mB0 := by
  have z0 : ∀ i, ¬ i < nP mB0 := fun i => Nat.not_lt_zero i
  have z1 : ∀ i, ¬ i < nO mB0 := fun i => Nat.not_lt_zero i
  exact ⟨⟨⟨Nat.zero_le _, rfl⟩, ⟨Nat.zero_le _, rfl⟩, fun i hi => absurd hi (z0 i), fun i hi => absurd hi (z1 i)⟩, ⟨fun i hi => absurd hi (z0 i), fun i hi => absurd hi (z1 i)⟩, fun i _ => ⟨rfl, rfl, rfl, rfl, rfl, rfl, rfl, rfl, rfl, fun _ _ => rfl⟩⟩
/-- all but the cell y is as it was -/
def zOldX (y : Nat) (w w' : zW) : Prop := ∀ b, zK w b ≠ 0 → b ≠ y → zK w' b = zK w b ∧ (∀ g, zI w' g b = zI w g b) ∧ (∀ g, zP w' g b = zP w g b) ∧ zN w' b = zN w b ∧ zR w' b = zR w b ∧ zQ w' b = zQ w b ∧ zJ w' b = zJ w b
