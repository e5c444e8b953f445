/-! A NEW ORDER, A NEW PERSON -/
theorem rw_addOrder {w : zW} {x : Nat} {ad : Nat → Nat → Nat} {B : mB} {k q9 : Nat} {s9 w9 g9 nm : Int32} (h : rAll w x ad B) (hinv : mInv B) (h8 : nO B < 8) (hk : k < 3) (hkx : ix (nI k) = k) (hf : zK w q9 = 0) (hnm : nm = nI (nO B)) :
    Rep (zsI (zsQ (zsI (zsI (zsP (zsI (zsI (zNew w q9 2 0) 100 q9 nm) 101 q9 s9) 102 q9 (some (ad 6 k))) 104 q9 w9) 103 q9 g9) (ad 7 1) (nO B) (some q9)) 504 x (zI w 504 x + 1)) x (up_addOrder B s9 (nI k) w9 g9) ∧
      cFr w (zsI (zsQ (zsI (zsI (zsP (zsI (zsI (zNew w q9 2 0) 100 q9 nm) 101 q9 s9) 102 q9 (some (ad 6 k))) 104 q9 w9) 103 q9 g9) (ad 7 1) (nO B) (some q9)) 504 x (zI w 504 x + 1)) := by
  have old : zOld w (zsI (zsI (zsP (zsI (zsI (zNew w q9 2 0) 100 q9 nm) 101 q9 s9) 102 q9 (some (ad 6 k))) 104 q9 w9) 103 q9 g9) := zOld_I (zOld_I (zOld_P (zOld_I (zOld_I (zOld_N (zOld_rf _) hf) hf _ _) hf _ _) hf _ _) hf _ _) hf _ _
  have k_x := h.1.1.1
  have ex := old x (zk0 k_x (by decide))
  have hfr : ∀ j, j < nO B → ad 5 j ≠ q9 := by
    intro j hj e
    have := (h.2.2.2.2.2.2.2.2.1 j hj).1
    rw [e, hf] at this; omega
  have n0 := zNew_new (w := w) (q := q9) (k := 2) (n := 0)
  refine ⟨⟨fun t j => if t = 5 ∧ j = nO B then q9 else ad t j, ?_⟩, cI (k := 6) (cQ (zOld_cFr old)) (ex.1.trans k_x) (by decide)⟩
  have a5 : (fun t j => if t = 5 ∧ j = nO B then q9 else ad t j) 5 (nO B) = q9 := if_pos ⟨rfl, rfl⟩
  have aO : ∀ t j, t ≠ 5 → (fun t j => if t = 5 ∧ j = nO B then q9 else ad t j) t j = ad t j := fun t j ht => if_neg (fun z => ht z.1)
  have aU : ∀ j, j < nO B → (fun t j => if t = 5 ∧ j = nO B then q9 else ad t j) 5 j = ad 5 j := fun j hj => if_neg (fun z => Nat.ne_of_lt hj z.2)
  generalize (fun t j => if t = 5 ∧ j = nO B then q9 else ad t j) = ad' at a5 aO aU ⊢
  have h2 : rAll (zsI (zsI (zsP (zsI (zsI (zNew w q9 2 0) 100 q9 nm) 101 q9 s9) 102 q9 (some (ad 6 k))) 104 q9 w9) 103 q9 g9) x ad' B := ra_ad (ra_old h old) hinv (fun t ht j _ => aO t j (by omega)) (fun n b _ _ => aO 4 _ (by decide)) (fun j hj => aU j hj) (fun j _ => aO 6 j (by decide)) (fun j _ => aO 7 j (by decide))
  have key := ra_addOrder (s9 := s9) (k9 := nI k) (w9 := w9) (g9 := g9) h2 hinv h8 (by
    rw [a5, aO 6 _ (by decide), hkx]
    exact ⟨n0.1, (z2_same (zNew w q9 2 0).2.1 100 q9 nm).trans hnm, z2_same (zsI (zNew w q9 2 0) 100 q9 nm).2.1 101 q9 s9, z2_same (zsI (zsI (zNew w q9 2 0) 100 q9 nm) 101 q9 s9).2.2.1 102 q9 (some (ad 6 k)), z2_same (zsI (zsP (zsI (zsI (zNew w q9 2 0) 100 q9 nm) 101 q9 s9) 102 q9 (some (ad 6 k))) 104 q9 w9).2.1 103 q9 g9, z2_same (zsP (zsI (zsI (zNew w q9 2 0) 100 q9 nm) 101 q9 s9) 102 q9 (some (ad 6 k))).2.1 104 q9 w9, n0.2.1 105⟩) (fun j hj => by rw [a5, aU j hj]; exact hfr j hj)
  rw [a5, aO 7 1 (by decide), ex.2.1 504] at key
  exact key
def aW1 (w : zW) (a : Nat) : zW := zsI (zNew w a 3 0) 203 a 1
def aW3 (w : zW) (a fa : Nat) : zW := zsP (zNew (aW1 w a) fa 10 50) 207 a (some fa)
def aW4 (w : zW) (a fa q : Nat) : zW := zNew (aW3 w a fa) q 4 0
def aW5 (w : zW) (a fa q r : Nat) : zW := zNew (aW4 w a fa q) r 15 4
def aW (w : zW) (a fa q r : Nat) (t0 tm sk : Int32) : zW := zsI (zsI (zsI (zsP (zsP (aW5 w a fa q r) 300 q (some r)) 211 a (some q)) 200 a t0) 201 a tm) 202 a sk
theorem aW_old {w : zW} {a fa q r : Nat} {t0 tm sk : Int32} (h0 : zK w a = 0) (h1 : zK (aW1 w a) fa = 0) (h2 : zK (aW3 w a fa) q = 0) (h3 : zK (aW4 w a fa q) r = 0) :
    zOld w (aW w a fa q r t0 tm sk) ∧ zK w fa = 0 ∧ zK w q = 0 ∧ zK w r = 0 := by
  have o1 : zOld w (aW1 w a) := zOld_I (zOld_N (zOld_rf _) h0) h0 _ _
  have o3 : zOld w (aW3 w a fa) := zOld_P (zOld_N o1 h1) h0 _ _
  have o4 : zOld w (aW4 w a fa q) := zOld_N o3 h2
  have o5 : zOld w (aW5 w a fa q r) := zOld_N o4 h3
  have hq := zOld_free o3 h2
  exact ⟨zOld_I (zOld_I (zOld_I (zOld_P (zOld_P o5 hq _ _) h0 _ _) h0 _ _) h0 _ _) h0 _ _, zOld_free o1 h1, hq, zOld_free o4 h3⟩
theorem aW_new {w : zW} {a fa q r : Nat} {t0 tm sk : Int32} (h1 : zK (aW1 w a) fa = 0) (h2 : zK (aW3 w a fa) q = 0) (h3 : zK (aW4 w a fa q) r = 0) :
    (zK (aW w a fa q r t0 tm sk) a = 3 ∧ zP (aW w a fa q r t0 tm sk) 207 a = some fa ∧ zP (aW w a fa q r t0 tm sk) 211 a = some q ∧ zK (aW w a fa q r t0 tm sk) fa = 10 ∧ zN (aW w a fa q r t0 tm sk) fa = 50 ∧ zK (aW w a fa q r t0 tm sk) q = 4 ∧ zP (aW w a fa q r t0 tm sk) 300 q = some r ∧ zK (aW w a fa q r t0 tm sk) r = 15 ∧ zN (aW w a fa q r t0 tm sk) r = 4) ∧
    (zI (aW w a fa q r t0 tm sk) 200 a = t0 ∧ zI (aW w a fa q r t0 tm sk) 201 a = tm ∧ zI (aW w a fa q r t0 tm sk) 202 a = sk ∧ zI (aW w a fa q r t0 tm sk) 203 a = 1 ∧ zI (aW w a fa q r t0 tm sk) 204 a = 0 ∧ zI (aW w a fa q r t0 tm sk) 205 a = 0 ∧ zI (aW w a fa q r t0 tm sk) 206 a = 0 ∧ zI (aW w a fa q r t0 tm sk) 208 a = 0 ∧ zI (aW w a fa q r t0 tm sk) 209 a = 0 ∧ zI (aW w a fa q r t0 tm sk) 212 a = 0 ∧ zI (aW w a fa q r t0 tm sk) 213 a = 0 ∧ zP (aW w a fa q r t0 tm sk) 210 a = none) ∧
    (zI (aW w a fa q r t0 tm sk) 301 q = 0 ∧ zI (aW w a fa q r t0 tm sk) 302 q = 0 ∧ zI (aW w a fa q r t0 tm sk) 303 q = 0 ∧ (∀ j, zR (aW w a fa q r t0 tm sk) r j = 0) ∧ (∀ j, zQ (aW w a fa q r t0 tm sk) fa j = none)) := by
  have n0 := zNew_new (w := w) (q := a) (k := 3) (n := 0)
  have nf := zNew_new (w := aW1 w a) (q := fa) (k := 10) (n := 50)
  have nq := zNew_new (w := aW3 w a fa) (q := q) (k := 4) (n := 0)
  have nr := zNew_new (w := aW4 w a fa q) (q := r) (k := 15) (n := 4)
  have k1 : zK (aW1 w a) a = 3 := n0.1
  have o2 := zNew_old (k := 10) (n := 50) h1 (zk0 k1 (by decide))
  have k3 : zK (aW3 w a fa) a = 3 := o2.2.1.trans k1
  have k3f : zK (aW3 w a fa) fa = 10 := nf.1
  have o4 := zNew_old (k := 4) (n := 0) h2 (zk0 k3 (by decide))
  have o4f := zNew_old (k := 4) (n := 0) h2 (zk0 k3f (by decide))
  have k4 : zK (aW4 w a fa q) a = 3 := o4.2.1.trans k3
  have k4f : zK (aW4 w a fa q) fa = 10 := o4f.2.1.trans k3f
  have k4q : zK (aW4 w a fa q) q = 4 := nq.1
  have o5 := zNew_old (k := 15) (n := 4) h3 (zk0 k4 (by decide))
  have o5f := zNew_old (k := 15) (n := 4) h3 (zk0 k4f (by decide))
  have o5q := zNew_old (k := 15) (n := 4) h3 (zk0 k4q (by decide))
  have I0 : ∀ g, zI (aW5 w a fa q r) g a = zI (aW1 w a) g a := fun g => (o5.2.2.1 g).trans ((o4.2.2.1 g).trans (o2.2.2.1 g))
  have P0 : ∀ g, zP (aW5 w a fa q r) g a = zP (aW3 w a fa) g a := fun g => (o5.2.2.2.1 g).trans (o4.2.2.2.1 g)
  have I1 : ∀ g, g ≠ 203 → zI (aW5 w a fa q r) g a = 0 := fun g hg => (I0 g).trans ((congrFun (z2_ne1 (zNew w a 3 0).2.1 a 1 hg) a).trans (n0.2.1 g))
  have I2 : ∀ g, zI (aW5 w a fa q r) g q = 0 := fun g => (o5q.2.2.1 g).trans (nq.2.1 g)
  refine ⟨⟨o5.2.1.trans k4, (P0 207).trans (z2_same (zNew (aW1 w a) fa 10 50).2.2.1 207 a (some fa)), z2_same (zsP (aW5 w a fa q r) 300 q (some r)).2.2.1 211 a (some q), o5f.2.1.trans k4f, o5f.2.2.2.2.1.trans (o4f.2.2.2.2.1.trans nf.2.2.2.1), o5q.2.1.trans k4q, z2_same (aW5 w a fa q r).2.2.1 300 q (some r), nr.1, nr.2.2.2.1⟩, ⟨?_, ?_, ?_, ?_, I1 204 (by decide), I1 205 (by decide), I1 206 (by decide), I1 208 (by decide), I1 209 (by decide), I1 212 (by decide), I1 213 (by decide), ?_⟩, ⟨I2 301, I2 302, I2 303, nr.2.2.2.2.1, fun j => ?_⟩⟩
  · exact z2_same (zsP (zsP (aW5 w a fa q r) 300 q (some r)) 211 a (some q)).2.1 200 a t0
  · exact z2_same (zsI (zsP (zsP (aW5 w a fa q r) 300 q (some r)) 211 a (some q)) 200 a t0).2.1 201 a tm
  · exact z2_same (zsI (zsI (zsP (zsP (aW5 w a fa q r) 300 q (some r)) 211 a (some q)) 200 a t0) 201 a tm).2.1 202 a sk
  · exact (I0 203).trans (z2_same (zNew w a 3 0).2.1 203 a 1)
  · exact (P0 210).trans ((o2.2.2.2.1 210).trans (n0.2.2.1 210))
  · exact (congrFun o5f.2.2.2.2.2.2.1 j).trans ((congrFun o4f.2.2.2.2.2.2.1 j).trans (nf.2.2.2.2.2.1 j))
theorem rw_admit {w : zW} {x : Nat} {ad : Nat → Nat → Nat} {B : mB} {a fa q r : Nat} {t0 tm sk : Int32} (h : rAll w x ad B) (hinv : mInv B) (hinv3 : mInv3 B) (h10 : nP B < 10) (h0 : zK w a = 0) (h1 : zK (aW1 w a) fa = 0) (h2 : zK (aW3 w a fa) q = 0) (h3 : zK (aW4 w a fa q) r = 0) (ht : t0 = B 0 0) :
    Rep (zsI (zsQ (aW w a fa q r t0 tm sk) (ad 7 0) (nP B) (some a)) 503 x (zI (aW w a fa q r t0 tm sk) 503 x + 1)) x (up_admit B tm sk) ∧ cFr w (zsI (zsQ (aW w a fa q r t0 tm sk) (ad 7 0) (nP B) (some a)) 503 x (zI (aW w a fa q r t0 tm sk) 503 x + 1)) := by
  obtain ⟨old, f0, q0, r0⟩ := aW_old (t0 := t0) (tm := tm) (sk := sk) h0 h1 h2 h3
  obtain ⟨nK, nI0, nI1⟩ := aW_new (t0 := t0) (tm := tm) (sk := sk) h1 h2 h3
  have k_x := h.1.1.1
  have ex := old x (zk0 k_x (by decide))
  have hk := h.2.2.2.1
  have d0 : ∀ i, i < nP B → ad 0 i ≠ a := by intro i hi e; have := (hk i hi).1; rw [e, h0] at this; omega
  have d1 : ∀ i, i < nP B → ad 1 i ≠ q := by intro i hi e; have := (hk i hi).2.2.2.2.2.1; rw [e, q0] at this; omega
  have d2 : ∀ i, i < nP B → ad 2 i ≠ r := by intro i hi e; have := (hk i hi).2.2.2.2.2.2.2.1; rw [e, r0] at this; omega
  have d3 : ∀ i, i < nP B → ad 3 i ≠ fa := by intro i hi e; have := (hk i hi).2.2.2.1; rw [e, f0] at this; omega
  refine ⟨⟨fun t j => if j = nP B then (if t = 0 then a else if t = 1 then q else if t = 2 then r else if t = 3 then fa else ad t j) else ad t j, ?_⟩, cI (k := 6) (cQ (zOld_cFr old)) (ex.1.trans k_x) (by decide)⟩
  have a0 : (fun t j => if j = nP B then (if t = 0 then a else if t = 1 then q else if t = 2 then r else if t = 3 then fa else ad t j) else ad t j) 0 (nP B) = a := if_pos rfl
  have a1 : (fun t j => if j = nP B then (if t = 0 then a else if t = 1 then q else if t = 2 then r else if t = 3 then fa else ad t j) else ad t j) 1 (nP B) = q := if_pos rfl
  have a2 : (fun t j => if j = nP B then (if t = 0 then a else if t = 1 then q else if t = 2 then r else if t = 3 then fa else ad t j) else ad t j) 2 (nP B) = r := if_pos rfl
  have a3 : (fun t j => if j = nP B then (if t = 0 then a else if t = 1 then q else if t = 2 then r else if t = 3 then fa else ad t j) else ad t j) 3 (nP B) = fa := if_pos rfl
  have aO : ∀ t j, j ≠ nP B → (fun t j => if j = nP B then (if t = 0 then a else if t = 1 then q else if t = 2 then r else if t = 3 then fa else ad t j) else ad t j) t j = ad t j := fun t j ht => if_neg ht
  have aT : ∀ t j, 4 ≤ t → (fun t j => if j = nP B then (if t = 0 then a else if t = 1 then q else if t = 2 then r else if t = 3 then fa else ad t j) else ad t j) t j = ad t j := by
    intro t j ht
    show (if j = nP B then (if t = 0 then a else if t = 1 then q else if t = 2 then r else if t = 3 then fa else ad t j) else ad t j) = ad t j
    rw [if_neg (by omega : ¬ t = 0), if_neg (by omega : ¬ t = 1), if_neg (by omega : ¬ t = 2), if_neg (by omega : ¬ t = 3)]
    split <;> rfl
  generalize (fun t j => if j = nP B then (if t = 0 then a else if t = 1 then q else if t = 2 then r else if t = 3 then fa else ad t j) else ad t j) = ad' at a0 a1 a2 a3 aO aT ⊢
  have hR2 : rAll (aW w a fa q r t0 tm sk) x ad' B := ra_ad (ra_old h old) hinv (fun t _ j hj => aO t j (Nat.ne_of_lt hj)) (fun n b _ _ => aT 4 _ (by decide)) (fun j _ => aT 5 j (by decide)) (fun j _ => aT 6 j (by decide)) (fun j _ => aT 7 j (by decide))
  have key := ra_admit (d := tm) (k9 := sk) hR2 hinv hinv3 h10 (by rw [a0, a1, a2, a3]; exact nK) (by rw [a0, ← ht]; exact nI0) (by rw [a1, a2, a3]; exact nI1) (fun t ht9 i hi => by
    rw [aO t i (Nat.ne_of_lt hi)]
    rcases (show t = 0 ∨ t = 1 ∨ t = 2 ∨ t = 3 by omega) with rfl | rfl | rfl | rfl
    · rw [a0]; exact d0 i hi
    · rw [a1]; exact d1 i hi
    · rw [a2]; exact d2 i hi
    · rw [a3]; exact d3 i hi)
  rw [a0, aT 7 0 (by decide)] at key
  exact key
/-! small facts of the reference's bounds -/
theorem vL3_f1 {a : Int32} (h : a < 0) : vLies a 0 3 = false := by simp [vLies, h]
theorem vL3_f2 {a : Int32} (h : ¬ a < 4) : vLies a 0 3 = false := by
  have h2 : 3 < a := by
    rw [i4] at h; exact Classical.not_not.mp h
  simp [vLies, h2]
theorem vL3_t {a : Int32} (h1 : ¬ a < 0) (h2 : a < 4) : vLies a 0 3 = true := by
  have h3 : ¬ 3 < a := i4.mp h2
  simp only [vLies, h1, h3, not_false_eq_true, decide_true, Bool.and_self]
theorem nI_lt8 {n m : Nat} (hn : n ≤ m) (hm : m < 2 ^ 31) : nI n = nI m ↔ ¬ nI n < nI m := by
  rw [nI_ltI (by omega) hm]
  constructor
  · intro e c; have := nI_inj (by omega) hm e; omega
  · intro c; rw [show n = m by omega]
theorem nO_full {B : mB} (h : mInv B) : B 22 0 = 8 ↔ ¬ B 22 0 < 8 := by
  rw [h.2.1.2]; exact nI_lt8 (m := 8) h.2.1.1 (by decide)
theorem nP_full {B : mB} (h : mInv B) : B 1 0 = 10 ↔ ¬ B 1 0 < 10 := by
  rw [h.1.2]; exact nI_lt8 (m := 10) h.1.1 (by decide)

theorem i32_11 (a : Int32) : a + 1 - 1 = a := by grind
