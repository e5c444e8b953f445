/-! A DAY, on the class's side -/
theorem le0_eq {B : mB} (h2 : mInv2 B) {j : Nat} (hj : j < nO B) : B 25 j ≤ 0 ↔ B 25 j = 0 := by
  have h9 := h2.2 j hj
  have h0 : (0 : Int32).toInt = 0 := rfl
  constructor
  · intro c; exact Int32.le_antisymm c h9
  · intro c; rw [c]; exact Int32.le_refl 0
theorem rw_work {w : zW} {x : Nat} {ad : Nat → Nat → Nat} {B : mB} {i : Nat} (h : rAll w x ad B) (hinv : mInv B) (hi : i < nP B) (hon : ¬ B 11 i = -1) (hz : ¬ B 25 (ox B i) = 0) :
    rAll (zsR (zsR (zsR (zsR (zsI (zsI w 104 (ad 5 (ox B i)) ((zI w 104 (ad 5 (ox B i))) - 1)) 204 (ad 0 i) ((zI w 204 (ad 0 i)) + 1)) (ad 2 i) 0 ((zR w (ad 2 i) 0) + (((zI w 103 (ad 5 (ox B i))) * 30) / 100))) (ad 2 i) 1 ((zR w (ad 2 i) 1) + (((zI w 103 (ad 5 (ox B i))) * 20) / 100))) (ad 2 i) 2 ((zR w (ad 2 i) 2) + (((zI w 103 (ad 5 (ox B i))) * 30) / 100))) (ad 2 i) 3 ((zR w (ad 2 i) 3) + ((((zI w 103 (ad 5 (ox B i))) - (((zI w 103 (ad 5 (ox B i))) * 30) / 100)) - (((zI w 103 (ad 5 (ox B i))) * 20) / 100)) - (((zI w 103 (ad 5 (ox B i))) * 30) / 100)))) x ad (sWork B i) := by
  have hj : ox B i < nO B := ((hinv.2.2.1 i hi).2.2.2.2.resolve_left hon).2
  obtain ⟨k_o, i100, i101, p102, i103, i104, i105⟩ := h.2.2.2.2.2.2.2.2.1 (ox B i) hj
  have i204 := h.2.2.2.2.1.2.2.2.2.1 i hi
  have hAc := h.2.2.2.2.2.2.1.2.2.2 i hi
  rw [i103, i104, i204, hAc 0 (by decide), hAc 1 (by decide), hAc 2 (by decide), hAc 3 (by decide)]
  unfold sWork
  rw [if_neg (fun z => z.elim hon hz)]
  exact ra_R (ra_R (ra_R (ra_R (ra_204 (ra_104 h hj _) hi _) hi (by decide) _) hi (by decide) _) hi (by decide) _) hi (by decide) _
theorem sWork_id {B : mB} {i : Nat} (h : B 11 i = -1 ∨ B 25 (ox B i) = 0) : sWork B i = B := if_pos h
theorem rw_lv_n {B : mB} {i : Nat} (hon : B 11 i = -1) : sLeave B i = B := by
  unfold sLeave; rw [if_pos hon]; exact z2_id hon
theorem rw_lv_k {B : mB} {i : Nat} (hon : ¬ B 11 i = -1) (hz : ¬ B 25 (ox B i) = 0) : sLeave B i = B := by
  unfold sLeave; rw [if_neg hon, if_neg hz]; exact z2_id rfl
theorem rw_lv_s {w : zW} {x : Nat} {ad : Nat → Nat → Nat} {B : mB} {i : Nat} (h : rAll w x ad B) (hinv : mInv B) (hi : i < nP B) (hon : ¬ B 11 i = -1) (hz : B 25 (ox B i) = 0) :
    rAll (zsP (zsI (zsI w 105 (ad 5 (ox B i)) ((zI w 105 (ad 5 (ox B i))) - 1)) 401 (ad 6 (kx B (ox B i))) ((zI w 401 (ad 6 (kx B (ox B i)))) - 1)) 210 (ad 0 i) none) x ad (sLeave B i) := by
  unfold sLeave; rw [if_neg hon, if_pos hz]; exact ra_leave h hinv hi hon
theorem sGo_no {B : mB} {i : Nat} (h : sStays B i) : sGo B i = B ∧ sGoN B i = 0 := by
  unfold sGo sGoN
  rcases h with h | h
  · rw [if_neg h, if_neg h]; exact ⟨rfl, rfl⟩
  · rw [if_neg h, if_neg h]; exact ⟨ite_self _, ite_self _⟩
theorem sGo_yes {B : mB} {i : Nat} (h2 : B 2 i = 0) (hd : sRel B i ≤ B 0 0) : sGoN B i = 1 ∧ sGo B i = z2 (z2 (z2 (z2 (z2 (z2 B 11 i (-1)) 13 i (B 14 (4 * i + 2) + B 14 (4 * i + 3))) 14 (4 * i + 2) 0) 14 (4 * i + 3) 0) 12 i (B 0 0)) 2 i 1 := by
  refine ⟨by unfold sGoN; rw [if_pos h2, if_pos hd], ?_⟩
  unfold sGo
  rw [if_pos h2, if_pos hd]
  rw [z2_comm (f := 2) (g := 12) (by decide), z2_comm (f := 2) (g := 11) (by decide), z2_comm (f := 2) (g := 13) (by decide), z2_comm (f := 2) (g := 14) (by decide), z2_comm (f := 2) (g := 14) (by decide)]
  rw [z2_comm (f := 12) (g := 11) (by decide), z2_comm (f := 12) (g := 13) (by decide), z2_comm (f := 12) (g := 14) (by decide), z2_comm (f := 12) (g := 14) (by decide)]
theorem rw_go0 {w : zW} {x : Nat} {ad : Nat → Nat → Nat} {B : mB} {i : Nat} {v t : Int32} (h : rAll w x ad B) (hi : i < nP B) :
    rAll (zsI (zsI (zsR (zsR (zsI w 303 (ad 1 i) v) (ad 2 i) 2 0) (ad 2 i) 3 0) 213 (ad 0 i) t) 212 (ad 0 i) 1) x ad (z2 (z2 (z2 (z2 (z2 B 13 i v) 14 (4 * i + 2) 0) 14 (4 * i + 3) 0) 12 i t) 2 i 1) :=
  ra_212 (ra_213 (ra_R (ra_R (ra_303 h hi v) hi (by decide) 0) hi (by decide) 0) hi t) hi 1
theorem rw_go_n {w : zW} {x : Nat} {ad : Nat → Nat → Nat} {B : mB} {i : Nat} {t : Int32} (h : rAll w x ad B) (hi : i < nP B) (hon : B 11 i = -1) (h2 : B 2 i = 0) (hd : sRel B i ≤ B 0 0) (ht : t = B 0 0) :
    rAll (zsI (zsI (zsR (zsR (zsI w 303 (ad 1 i) ((zR w (ad 2 i) 2) + (zR w (ad 2 i) 3))) (ad 2 i) 2 0) (ad 2 i) 3 0) 213 (ad 0 i) t) 212 (ad 0 i) 1) x ad (sGo B i) := by
  have hAc := h.2.2.2.2.2.2.1.2.2.2 i hi
  have hz : z2 B 11 i (-1) = B := z2_id hon
  rw [(sGo_yes h2 hd).2, hz, hAc 2 (by decide), hAc 3 (by decide), ht]
  exact rw_go0 h hi
theorem rw_go_s {w : zW} {x : Nat} {ad : Nat → Nat → Nat} {B : mB} {i : Nat} {t : Int32} (h : rAll w x ad B) (hinv : mInv B) (hi : i < nP B) (hon : ¬ B 11 i = -1) (h2 : B 2 i = 0) (hd : sRel B i ≤ B 0 0) (ht : t = B 0 0) :
    rAll (zsI (zsI (zsR (zsR (zsI (zsP (zsI (zsI w 105 (ad 5 (ox B i)) ((zI w 105 (ad 5 (ox B i))) - 1)) 401 (ad 6 (kx B (ox B i))) ((zI w 401 (ad 6 (kx B (ox B i)))) - 1)) 210 (ad 0 i) none) 303 (ad 1 i) ((zR w (ad 2 i) 2) + (zR w (ad 2 i) 3))) (ad 2 i) 2 0) (ad 2 i) 3 0) 213 (ad 0 i) t) 212 (ad 0 i) 1) x ad (sGo B i) := by
  have hAc := h.2.2.2.2.2.2.1.2.2.2 i hi
  rw [(sGo_yes h2 hd).2, hAc 2 (by decide), hAc 3 (by decide), ht]
  exact rw_go0 (ra_leave h hinv hi hon) hi
theorem sGoesN_add (X : mB) (n : Int32) : ∀ k, sGoesN X n k = n + sGoesN X 0 k
  | 0 => (Int32.add_zero n).symm
  | k + 1 => by
    show sGoesN X n k + sGoN (sGoes X k) k = n + (sGoesN X 0 k + sGoN (sGoes X k) k)
    rw [sGoesN_add X n k, Int32.add_assoc]
theorem mn1 {k n : Nat} (h : k < n) : min (k + 1) n = k + 1 := Nat.min_eq_left h
theorem mn0 {k n : Nat} (h : k < n) : min k n = k := Nat.min_eq_left (Nat.le_of_lt h)
theorem mn2 {k n : Nat} (h : ¬ k < n) : min (k + 1) n = min k n := by omega
theorem mn10 {n : Nat} (h : n ≤ 10) : min 10 n = n := Nat.min_eq_right h
