theorem cI {w0 w : zW} {g a k : Nat} {v : Int32} (h0 : cFr w0 w) (h : zK w a = k) (hk : k ≠ 7 ∧ k ≠ 8 ∧ k ≠ 9 ∧ k ≠ 14) : cFr w0 (zsI w g a v) := cFr_tr h0 (cFr_I h hk g v)
theorem cP {w0 w : zW} {g a k : Nat} {v : Option Nat} (h0 : cFr w0 w) (h : zK w a = k) (hk : k ≠ 7 ∧ k ≠ 8 ∧ k ≠ 9 ∧ k ≠ 14) : cFr w0 (zsP w g a v) := cFr_tr h0 (cFr_P h hk g v)
theorem cR {w0 w : zW} {j a k : Nat} {v : Int32} (h0 : cFr w0 w) (h : zK w a = k) (hk : k ≠ 7 ∧ k ≠ 8 ∧ k ≠ 9 ∧ k ≠ 14) : cFr w0 (zsR w a j v) := cFr_tr h0 (cFr_R h hk j v)
theorem cQ {w0 w : zW} {j a : Nat} {v : Option Nat} (h0 : cFr w0 w) : cFr w0 (zsQ w a j v) := cFr_tr h0 (cFr_Q a j v)
theorem cN {w0 w : zW} {q k n : Nat} (h0 : cFr w0 w) (h : zK w q = 0) : cFr w0 (zNew w q k n) := cFr_tr h0 (zOld_cFr (zOld_N (zOld_rf w) h))
theorem i32_9 (a : Int32) : a + (-5) = a - 5 := by grind
theorem i32_8 (a b : Int32) : a - b + 1 = a + 1 - b := by grind
theorem z2_comm {X : mB} {f g a b : Nat} {u v : Int32} (h : f ≠ g) : z2 (z2 X f a u) g b v = z2 (z2 X g b v) f a u := by
  funext j
  by_cases e : j = g
  · subst e; rw [z2_ne1 (z2 X j b v) a u (Ne.symm h)]
    funext c
    by_cases e2 : c = b
    · subst e2; rw [z2_same, z2_same]
    · rw [z2_ne2 _ _ _ _ e2, z2_ne2 _ _ _ _ e2, z2_ne1 X a u (Ne.symm h)]
  · rw [z2_ne1 _ b v e]
    by_cases e3 : j = f
    · subst e3
      funext c
      by_cases e2 : c = a
      · subst e2; rw [z2_same, z2_same]
      · rw [z2_ne2 _ _ _ _ e2, z2_ne2 _ _ _ _ e2, z2_ne1 X b v e]
    · rw [z2_ne1 _ _ _ e3, z2_ne1 _ _ _ e3, z2_ne1 _ _ _ e]
theorem rg_eq {r : Int32} (h : r = 0 ∨ r = 1 ∨ r = 2) : (if 2 < r + 1 then 2 else r + 1) = r + (if r < 2 then 1 else 0) := by
  rcases h with rfl | rfl | rfl <;> decide
theorem rel_of {w : zW} {x : Nat} {ad : Nat → Nat → Nat} {B : mB} {i : Nat} (h : rAll w x ad B) (hi : i < nP B) : (B 2 i = 0 → ((((zI w 200 (ad 0 i)) + (zI w 201 (ad 0 i))) - (if ((zI w 201 (ad 0 i)) / 4) < (((zI w 204 (ad 0 i)) / 5) + (zI w 206 (ad 0 i))) then ((zI w 201 (ad 0 i)) / 4) else (((zI w 204 (ad 0 i)) / 5) + (zI w 206 (ad 0 i))))) + (zI w 209 (ad 0 i))) = sRel B i) ∧ (¬ B 2 i = 0 → zI w 213 (ad 0 i) = sRel B i) := by
  have h9 := h
  obtain ⟨⟨⟨k_x, i503, i504, i505⟩, ⟨p500, p501, p502⟩, k_A, n_A, k_O, n_O, k_T, n_T⟩, ⟨qA, qO, qT⟩, hTool, hPk, ⟨h200, h201, h202, h203, h204, h205, h206, h208, h209, h212, h213⟩, hPo, ⟨h301, h302, h303, hAc⟩, ⟨hOq, hOf⟩, hOr, hInj⟩ := h9
  refine ⟨fun e => ?_, fun e => ?_⟩
  · unfold sRel sGain; rw [if_pos e, h200 i hi, h201 i hi, h204 i hi, h206 i hi, h209 i hi, sMin]
  · simp [sRel, e, h213 i hi]
theorem rw_raise {w : zW} {x : Nat} {ad : Nat → Nat → Nat} {B : mB} {i : Nat} (h : rAll w x ad B) (hinv2 : mInv2 B) (hi : i < nP B) : rAll (zsI w 203 (ad 0 i) (if 2 < zI w 203 (ad 0 i) + 1 then 2 else zI w 203 (ad 0 i) + 1)) x ad (sRaise B i) := by
  have e : zI w 203 (ad 0 i) = B 6 i := h.2.2.2.2.1.2.2.2.1 i hi
  rw [e, rg_eq (hinv2.1 i hi).1]
  exact ra_203 h hi _
theorem rw_course {w : zW} {x : Nat} {ad : Nat → Nat → Nat} {B : mB} {i : Nat} (h : rAll w x ad B) (hinv2 : mInv2 B) (hi : i < nP B) (hix : ix (nI i) = i) (sk days : Int32) : rAll (zsI (zsI (zsI (zsI w 202 (ad 0 i) ((zI w 202 (ad 0 i)) ||| (1 <<< (sk &&& 31)))) 205 (ad 0 i) ((zI w 205 (ad 0 i)) + 1)) 206 (ad 0 i) ((zI w 206 (ad 0 i)) + days)) 203 (ad 0 i) (if 2 < ((zI w 203 (ad 0 i)) + 1) then 2 else ((zI w 203 (ad 0 i)) + 1))) x ad (up_course B (nI i) sk days) := by
  have h9 := h
  obtain ⟨⟨⟨k_x, i503, i504, i505⟩, ⟨p500, p501, p502⟩, k_A, n_A, k_O, n_O, k_T, n_T⟩, ⟨qA, qO, qT⟩, hTool, hPk, ⟨h200, h201, h202, h203, h204, h205, h206, h208, h209, h212, h213⟩, hPo, ⟨h301, h302, h303, hAc⟩, ⟨hOq, hOf⟩, hOr, hInj⟩ := h9
  rw [h202 i hi, h205 i hi, h206 i hi]
  have key := rw_raise (ra_206 (ra_205 (ra_202 h hi (B 5 i ||| (1 <<< (sk &&& 31)))) hi (B 9 i - B 10 i + 1) (i32_8 _ _)) hi (B 8 i + days)) hinv2 hi
  have e : up_course B (nI i) sk days = sRaise (z2 (z2 (z2 B 5 i (B 5 i ||| (1 <<< (sk &&& 31)))) 9 i (B 9 i + 1)) 8 i (B 8 i + days)) i := by
    unfold up_course; rw [hix, z2_comm (show 8 ≠ 9 by decide)]
  rw [e]; exact key
theorem rw_off1 {w1 : zW} {x : Nat} {ad : Nat → Nat → Nat} {B1 : mB} {i e9 : Nat} (h : rAll w1 x ad B1) (hinv : mInv B1) (hi : i < nP B1) (h50 : oc B1 i < 50) (hf : zK w1 e9 = 0) (t0 days low : Int32) :
    ∃ ad', (∀ t j, t ≠ 4 → ad' t j = ad t j) ∧ cFr w1 (zsI (zsI (zsQ (zsI (zsI (zsI (zNew w1 e9 1 0) 0 e9 t0) 1 e9 days) 2 e9 low) (ad 3 i) (oc B1 i) (some e9)) 208 (ad 0 i) (zI w1 208 (ad 0 i) + 1)) 209 (ad 0 i) (zI w1 209 (ad 0 i) + days)) ∧ rAll (zsI (zsI (zsQ (zsI (zsI (zsI (zNew w1 e9 1 0) 0 e9 t0) 1 e9 days) 2 e9 low) (ad 3 i) (oc B1 i) (some e9)) 208 (ad 0 i) (zI w1 208 (ad 0 i) + 1)) 209 (ad 0 i) (zI w1 209 (ad 0 i) + days)) x ad'
      (z2 (z2 (z2 (z2 (z2 (z2 B1 17 (50 * i + oc B1 i) days) 18 (50 * i + oc B1 i) t0) 19 (50 * i + oc B1 i) low) 20 (50 * i + oc B1 i) 0) 9 i (B1 9 i + 1)) 10 i (B1 10 i + 1)) := by
  have old : zOld w1 (zsI (zsI (zsI (zNew w1 e9 1 0) 0 e9 t0) 1 e9 days) 2 e9 low) := zOld_I (zOld_I (zOld_I (zOld_N (zOld_rf _) hf) hf _ _) hf _ _) hf _ _
  have hK : ∀ n b, n < nP B1 → b < oc B1 n → 50 * n + b ≠ 50 * i + oc B1 i := by
    intro n b hn hb e
    have a2 := (mInv_oc50 hinv hn).2
    have e3 : n = i := by omega
    subst e3; omega
  have k0 : zK w1 (ad 0 i) ≠ 0 := zk0 (h.2.2.2.1 i hi).1 (by decide)
  have eo := old (ad 0 i) k0
  have hfr : ∀ n b, n < nP B1 → b < oc B1 n → ad 4 (50 * n + b) ≠ e9 := by
    intro n b hn hb e
    have := (h.2.2.2.2.2.2.2.1.2 n hn b hb).1
    rw [e, hf] at this; omega
  refine ⟨fun t j => if t = 4 ∧ j = 50 * i + oc B1 i then e9 else ad t j, fun t j ht => if_neg (fun z => ht z.1), by
    have k3 := eo.1.trans (h.2.2.2.1 i hi).1
    refine cI (k := 3) ?_ k3 (by decide)
    refine cI (k := 3) ?_ k3 (by decide)
    refine cQ ?_
    exact zOld_cFr old, ?_⟩
  have a4 : (fun t j => if t = 4 ∧ j = 50 * i + oc B1 i then e9 else ad t j) 4 (50 * i + oc B1 i) = e9 := if_pos ⟨rfl, rfl⟩
  have aO : ∀ t j, t ≠ 4 → (fun t j => if t = 4 ∧ j = 50 * i + oc B1 i then e9 else ad t j) t j = ad t j := fun t j ht => if_neg (fun z => ht z.1)
  have aU : ∀ n b, n < nP B1 → b < oc B1 n → (fun t j => if t = 4 ∧ j = 50 * i + oc B1 i then e9 else ad t j) 4 (50 * n + b) = ad 4 (50 * n + b) := fun n b hn hb => if_neg (fun z => hK n b hn hb z.2)
  generalize (fun t j => if t = 4 ∧ j = 50 * i + oc B1 i then e9 else ad t j) = ad' at a4 aO aU ⊢
  have h2 : rAll (zsI (zsI (zsI (zNew w1 e9 1 0) 0 e9 t0) 1 e9 days) 2 e9 low) x ad' B1 := ra_ad (ra_old h old) hinv (fun t ht j _ => aO t j (by omega)) (fun n b hn hb => aU n b hn hb) (fun j _ => aO 5 j (by decide)) (fun j _ => aO 6 j (by decide)) (fun j _ => aO 7 j (by decide))
  have n0 := zNew_new (w := w1) (q := e9) (k := 1) (n := 0)
  have h3 : rAll (zsI (zsI (zsI (zNew w1 e9 1 0) 0 e9 t0) 1 e9 days) 2 e9 low) x ad' (z2 (z2 (z2 (z2 B1 17 (50 * i + oc B1 i) days) 18 (50 * i + oc B1 i) t0) 19 (50 * i + oc B1 i) low) 20 (50 * i + oc B1 i) 0) := ra_20 (ra_19 (ra_18 (ra_17 h2 hinv h50 days) hinv h50 t0) hinv h50 low) hinv h50 0
  have key := ra_grow h3 hinv hi h50 (by
    refine ⟨?_, ?_, ?_, ?_, ?_⟩
    · show zK _ (ad' 4 (50 * i + oc B1 i)) = 1; rw [a4]; exact n0.1
    · show zI _ 0 (ad' 4 (50 * i + oc B1 i)) = z2 (z2 (z2 (z2 B1 17 (50 * i + oc B1 i) days) 18 (50 * i + oc B1 i) t0) 19 (50 * i + oc B1 i) low) 20 (50 * i + oc B1 i) 0 18 (50 * i + oc B1 i)
      rw [a4]; exact (z2_same (zNew w1 e9 1 0).2.1 0 e9 t0).trans (z2_same (z2 B1 17 (50 * i + oc B1 i) days) 18 (50 * i + oc B1 i) t0).symm
    · show zI _ 1 (ad' 4 (50 * i + oc B1 i)) = z2 (z2 (z2 (z2 B1 17 (50 * i + oc B1 i) days) 18 (50 * i + oc B1 i) t0) 19 (50 * i + oc B1 i) low) 20 (50 * i + oc B1 i) 0 17 (50 * i + oc B1 i)
      rw [a4]; exact (z2_same (zsI (zNew w1 e9 1 0) 0 e9 t0).2.1 1 e9 days).trans (z2_same B1 17 (50 * i + oc B1 i) days).symm
    · show zI _ 2 (ad' 4 (50 * i + oc B1 i)) = z2 (z2 (z2 (z2 B1 17 (50 * i + oc B1 i) days) 18 (50 * i + oc B1 i) t0) 19 (50 * i + oc B1 i) low) 20 (50 * i + oc B1 i) 0 19 (50 * i + oc B1 i)
      rw [a4]; exact (z2_same (zsI (zsI (zNew w1 e9 1 0) 0 e9 t0) 1 e9 days).2.1 2 e9 low).trans (z2_same (z2 (z2 B1 17 (50 * i + oc B1 i) days) 18 (50 * i + oc B1 i) t0) 19 (50 * i + oc B1 i) low).symm
    · show zI _ 3 (ad' 4 (50 * i + oc B1 i)) = z2 (z2 (z2 (z2 B1 17 (50 * i + oc B1 i) days) 18 (50 * i + oc B1 i) t0) 19 (50 * i + oc B1 i) low) 20 (50 * i + oc B1 i) 0 20 (50 * i + oc B1 i)
      rw [a4, z2_same]; exact n0.2.1 3)
    (fun n b hn hb => by
      show ad' 4 (50 * n + b) ≠ ad' 4 (50 * i + oc B1 i)
      rw [a4, aU n b hn hb]; exact hfr n b hn hb)
    (z2_same _ _ _ _)
  have o2 : oc (z2 (z2 (z2 (z2 B1 17 (50 * i + oc B1 i) days) 18 (50 * i + oc B1 i) t0) 19 (50 * i + oc B1 i) low) 20 (50 * i + oc B1 i) 0) i = oc B1 i := rfl
  have d2 : z2 (z2 (z2 (z2 B1 17 (50 * i + oc B1 i) days) 18 (50 * i + oc B1 i) t0) 19 (50 * i + oc B1 i) low) 20 (50 * i + oc B1 i) 0 17 (50 * i + oc B1 i) = days := z2_same B1 17 _ _
  rw [o2, d2, a4, aO 0 i (by decide), aO 3 i (by decide), eo.2.1 208, eo.2.1 209] at key
  exact key
theorem zMost_eq {w : zW} {x : Nat} {ad : Nat → Nat → Nat} {B : mB} {i : Nat} (h : rAll w x ad B) (hi : i < nP B) : ∀ k, k ≤ 50 → zMost w (ad 0 i) (ad 3 i) (B 0 0) k = sMost B i (min k (oc B i)) := by
  have h9 := h
  obtain ⟨⟨⟨k_x, i503, i504, i505⟩, ⟨p500, p501, p502⟩, k_A, n_A, k_O, n_O, k_T, n_T⟩, ⟨qA, qO, qT⟩, hTool, hPk, ⟨h200, h201, h202, h203, h204, h205, h206, h208, h209, h212, h213⟩, hPo, ⟨h301, h302, h303, hAc⟩, ⟨hOq, hOf⟩, hOr, hInj⟩ := h9
  intro k
  induction k with
  | zero => intro _; rw [Nat.zero_min]; show 20 * zI w 203 (ad 0 i) + 10 = 20 * B 6 i + 10; rw [h203 i hi]
  | succ k ih =>
    intro hk
    have ih := ih (by omega)
    show (match zQ w (ad 3 i) k with | none => zMost w (ad 0 i) (ad 3 i) (B 0 0) k | some e9 => if zI w 3 e9 = 0 ∧ B 0 0 - zI w 0 e9 ≤ 29 then zMost w (ad 0 i) (ad 3 i) (B 0 0) k + (-5) else zMost w (ad 0 i) (ad 3 i) (B 0 0) k) = _
    rw [hOq i hi k (by omega), ih]
    by_cases c : k < oc B i
    · rw [if_pos c, Nat.min_eq_left (by omega : k ≤ oc B i), Nat.min_eq_left (by omega : k + 1 ≤ oc B i)]
      obtain ⟨a1, a2, a3, a4, a5⟩ := hOf i hi k c
      show (if zI w 3 (ad 4 (50 * i + k)) = 0 ∧ B 0 0 - zI w 0 (ad 4 (50 * i + k)) ≤ 29 then sMost B i k + (-5) else sMost B i k) = sMost B i k - (if B 20 (50 * i + k) = 0 ∧ B 0 0 - B 18 (50 * i + k) ≤ 29 then 5 else 0)
      rw [a2, a5]
      split
      · rw [i32_9]
      · rw [Int32.sub_zero]
    · rw [if_neg c, Nat.min_eq_right (by omega : oc B i ≤ k), Nat.min_eq_right (by omega : oc B i ≤ k + 1)]
theorem i32_sub_toInt {a b : Int32} (h1 : -2147483648 ≤ a.toInt - b.toInt) (h2 : a.toInt - b.toInt < 2147483648) : (a - b).toInt = a.toInt - b.toInt := by
  rw [Int32.toInt_sub]; exact Int.bmod_eq_of_le (by omega) (by omega)
theorem sMost_rng {B : mB} {i : Nat} (h : B 6 i = 0 ∨ B 6 i = 1 ∨ B 6 i = 2) (n : Nat) (hn : n ≤ 50) : 10 - 5 * (n : Int) ≤ (sMost B i n).toInt ∧ (sMost B i n).toInt ≤ 50 := by
  induction n with
  | zero =>
    show 10 - 5 * ((0 : Nat) : Int) ≤ (20 * B 6 i + 10).toInt ∧ (20 * B 6 i + 10).toInt ≤ 50
    rcases h with e | e | e <;> rw [e] <;> decide
  | succ n ih =>
    have ih := ih (by omega)
    show _ ≤ (sMost B i n - (if B 20 (50 * i + n) = 0 ∧ B 0 0 - B 18 (50 * i + n) ≤ 29 then 5 else 0)).toInt ∧ (sMost B i n - (if B 20 (50 * i + n) = 0 ∧ B 0 0 - B 18 (50 * i + n) ≤ 29 then 5 else 0)).toInt ≤ _
    have h5 : (5 : Int32).toInt = 5 := rfl
    split
    · rw [i32_sub_toInt (by rw [h5]; omega) (by rw [h5]; omega), h5]; omega
    · rw [Int32.sub_zero]; omega
theorem rest_eq {t b : Int32} (h1 : 0 ≤ t ∧ t ≤ 50) (h2 : 0 ≤ b ∧ b ≤ 50) : (if t - b < 0 then 0 else t - b) = if t < b then 0 else t - b := by
  have h0 : (0 : Int32).toInt = 0 := rfl
  have h50 : (50 : Int32).toInt = 50 := rfl
  simp only [Int32.le_iff_toInt_le, h0, h50] at h1 h2
  have e : (t - b).toInt = t.toInt - b.toInt := i32_sub_toInt (by omega) (by omega)
  by_cases c : t < b
  · rw [if_pos c, if_pos]
    rw [Int32.lt_iff_toInt_lt] at c ⊢; rw [e, h0]; omega
  · rw [if_neg c, if_neg]
    rw [Int32.lt_iff_toInt_lt] at c ⊢; rw [e, h0]; omega
theorem may_eq {w : zW} {x : Nat} {ad : Nat → Nat → Nat} {B : mB} {i : Nat} (h : rAll w x ad B) (hinv : mInv B) (hinv2 : mInv2 B) (hi : i < nP B) : (¬ B 2 i = 0 → sRest B i = 0) ∧ (B 2 i = 0 → (if ((if (zMost w (ad 0 i) (ad 3 i) (B 0 0) 50) < 0 then 0 else (zMost w (ad 0 i) (ad 3 i) (B 0 0) 50)) - (if (B 0 0 / 7) = (zI w 301 (ad 1 i)) then (zI w 302 (ad 1 i)) else 0)) < 0 then 0 else ((if (zMost w (ad 0 i) (ad 3 i) (B 0 0) 50) < 0 then 0 else (zMost w (ad 0 i) (ad 3 i) (B 0 0) 50)) - (if (B 0 0 / 7) = (zI w 301 (ad 1 i)) then (zI w 302 (ad 1 i)) else 0))) = sRest B i) := by
  have h9 := h
  obtain ⟨⟨⟨k_x, i503, i504, i505⟩, ⟨p500, p501, p502⟩, k_A, n_A, k_O, n_O, k_T, n_T⟩, ⟨qA, qO, qT⟩, hTool, hPk, ⟨h200, h201, h202, h203, h204, h205, h206, h208, h209, h212, h213⟩, hPo, ⟨h301, h302, h303, hAc⟩, ⟨hOq, hOf⟩, hOr, hInj⟩ := h9
  refine ⟨fun e => if_neg e, fun e => ?_⟩
  have ho := (mInv_oc50 hinv hi).2
  have r := sMost_rng (hinv2.1 i hi).1 (oc B i) ho
  have b16 := (hinv2.1 i hi).2.2
  rw [zMost_eq h hi 50 (Nat.le_refl _), Nat.min_eq_right ho, h301 i hi, h302 i hi]
  have hb : (if B 0 0 / 7 = B 15 i then B 16 i else 0) = sBought B i := by
    unfold sBought
    by_cases c : B 0 0 / 7 = B 15 i
    · rw [if_pos c, if_pos c.symm]
    · rw [if_neg c, if_neg (fun z => c z.symm)]
  rw [hb]
  have ht : 0 ≤ sTop B i ∧ sTop B i ≤ 50 := by
    unfold sTop
    by_cases c : sMost B i (oc B i) < 0
    · rw [if_pos c]; decide
    · rw [if_neg c]
      refine ⟨Int32.not_lt.mp c, ?_⟩
      rw [Int32.le_iff_toInt_le]; exact r.2
  have hbb : 0 ≤ sBought B i ∧ sBought B i ≤ 50 := by
    unfold sBought; split
    · exact b16
    · decide
  show (if sTop B i - sBought B i < 0 then 0 else sTop B i - sBought B i) = sRest B i
  rw [rest_eq ht hbb]
  unfold sRest; rw [if_pos e]
