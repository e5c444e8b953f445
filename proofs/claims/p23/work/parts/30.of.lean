theorem i32_10 (a b : Int32) : a - b + b = a := by grind
theorem rm_eq {w : zW} {x : Nat} {ad : Nat → Nat → Nat} {B : mB} {i : Nat} (h : rAll w x ad B) (hinv : mInv B) (hi : i < nP B) : (((zI w 205 (ad 0 i)) + (zI w 208 (ad 0 i))) < 50) ↔ ¬ B 9 i = 50 := by
  rw [h.2.2.2.2.1.2.2.2.2.2.1 i hi, h.2.2.2.2.1.2.2.2.2.2.2.2.1 i hi, i32_10]
  obtain ⟨q1, q2, q3, q4, q5⟩ := hinv.2.2.1 i hi
  rw [q2]
  constructor
  · intro c e; rw [e] at c; exact absurd c (by decide)
  · intro c
    rw [Int32.lt_iff_toInt_lt, nI_toInt (by omega)]
    have h50 : (50 : Int32).toInt = 50 := rfl
    rw [h50]
    rcases Nat.lt_or_ge (pp B i) 50 with q | q
    · omega
    · have e : pp B i = 50 := Nat.le_antisymm q4 q
      exact absurd (by rw [e]; rfl) c
theorem rm2_eq {w : zW} {x : Nat} {ad : Nat → Nat → Nat} {B : mB} {i : Nat} (h : rAll w x ad B) (hinv : mInv B) (hi : i < nP B) : ((((zI w 205 (ad 0 i)) + (zI w 208 (ad 0 i))) < 50) ∧ (zI w 208 (ad 0 i)) < 50) ↔ ¬ B 9 i = 50 := by
  rw [rm_eq h hinv hi]
  constructor
  · exact fun c => c.1
  · intro c
    refine ⟨c, ?_⟩
    have := mInv_oc hinv hi c
    rw [h.2.2.2.2.1.2.2.2.2.2.2.2.1 i hi, (mInv_oc50 hinv hi).1, Int32.lt_iff_toInt_lt, nI_toInt (by omega)]
    have h50 : (50 : Int32).toInt = 50 := rfl
    omega
theorem mInv_grow {B : mB} {i : Nat} (h : mInv B) (hi : i < nP B) (c : ¬ B 9 i = 50) : mInv (z2 (z2 B 9 i (B 9 i + 1)) 10 i (B 10 i + 1)) := by
  obtain ⟨h1, h2, h3, h4⟩ := h
  have hc : pp B i < 50 := by
    obtain ⟨q1, q2, q3, q4, q5⟩ := h3 i hi
    rcases Nat.lt_or_ge (pp B i) 50 with q | q
    · exact q
    · have e : pp B i = 50 := Nat.le_antisymm q4 q
      exact absurd (by rw [q2, e]; rfl) c
  refine ⟨h1, h2, fun k hk => ?_, h4⟩
  obtain ⟨q1, q2, q3, q4, q5⟩ := h3 k hk
  by_cases e : k = i
  · subst e
    have a1 : z2 (z2 B 9 k (B 9 k + 1)) 10 k (B 10 k + 1) 10 k = nI (oc B k + 1) := by rw [z2_same, q1, nI_1]
    have a2 : z2 (z2 B 9 k (B 9 k + 1)) 10 k (B 10 k + 1) 9 k = nI (pp B k + 1) := (z2_same B 9 k _).trans (by rw [q2, nI_1])
    have b1 : oc (z2 (z2 B 9 k (B 9 k + 1)) 10 k (B 10 k + 1)) k = oc B k + 1 := by unfold oc at a1 ⊢; rw [a1, ix_nI (by unfold oc at q3; omega)]
    have b2 : pp (z2 (z2 B 9 k (B 9 k + 1)) 10 k (B 10 k + 1)) k = pp B k + 1 := by unfold pp at a2 ⊢; rw [a2, ix_nI (by unfold pp at hc; omega)]
    rw [b1, b2]; exact ⟨a1, a2, by omega, by omega, q5⟩
  · have a1 : z2 (z2 B 9 i (B 9 i + 1)) 10 i (B 10 i + 1) 10 k = B 10 k := z2_ne2 (z2 B 9 i (B 9 i + 1)) 10 10 _ e
    have a2 : z2 (z2 B 9 i (B 9 i + 1)) 10 i (B 10 i + 1) 9 k = B 9 k := z2_ne2 B 9 9 _ e
    have b1 : oc (z2 (z2 B 9 i (B 9 i + 1)) 10 i (B 10 i + 1)) k = oc B k := congrArg ix a1
    have b2 : pp (z2 (z2 B 9 i (B 9 i + 1)) 10 i (B 10 i + 1)) k = pp B k := congrArg ix a2
    rw [b1, b2, a1, a2]; exact ⟨q1, q2, q3, q4, q5⟩
/-- the state behind an offence, in the class's order -/
def sOff (B : mB) (i : Nat) (days L : Int32) : mB := z2 (z2 (z2 (z2 (z2 (z2 (z2 B 6 i (B 6 i - L)) 17 (50 * i + oc B i) days) 18 (50 * i + oc B i) (B 0 0)) 19 (50 * i + oc B i) L) 20 (50 * i + oc B i) 0) 9 i (B 9 i + 1)) 10 i (B 10 i + 1)
theorem up_off_eq {B : mB} {i : Nat} {days : Int32} (hix : ix (nI i) = i) : up_offence B (nI i) days = z2 (sOff B i days (if 0 < B 6 i then 1 else 0)) 11 i (-1) := by
  unfold up_offence sOff
  rw [hix, z2_comm (f := 6) (g := 17) (by decide), z2_comm (f := 6) (g := 18) (by decide), z2_comm (f := 6) (g := 19) (by decide), z2_comm (f := 6) (g := 20) (by decide), z2_comm (f := 10) (g := 11) (by decide), z2_comm (f := 9) (g := 11) (by decide)]
theorem sOff_inv {B : mB} {i : Nat} {days L : Int32} (h : mInv B) (hi : i < nP B) (c : ¬ B 9 i = 50) : mInv (sOff B i days L) :=
  mInv_grow (B := z2 (z2 (z2 (z2 (z2 B 6 i (B 6 i - L)) 17 (50 * i + oc B i) days) 18 (50 * i + oc B i) (B 0 0)) 19 (50 * i + oc B i) L) 20 (50 * i + oc B i) 0) h hi c
theorem rg_pos {r : Int32} (h : ¬ r ≤ 0) : (if 0 < r then 1 else 0 : Int32) = 1 := if_pos (Int32.not_le.mp h)
theorem rg_zero {r : Int32} (h : r ≤ 0) : (if 0 < r then 1 else 0 : Int32) = 0 := if_neg (Int32.not_lt.mpr h)

theorem rw_offA_1 {w : zW} {x : Nat} {ad : Nat → Nat → Nat} {B : mB} {i e9 : Nat} {t0 days : Int32} (h : rAll w x ad B) (hinv : mInv B) (hi : i < nP B) (h50 : oc B i < 50) (ht : t0 = B 0 0) (hr : ¬ (zI w 203 (ad 0 i)) ≤ 0) (hf : zK (zsI w 203 (ad 0 i) ((zI w 203 (ad 0 i)) - 1)) e9 = 0) :
    ∃ ad', (∀ t j, t ≠ 4 → ad' t j = ad t j) ∧ cFr w (zsI (zsI (zsQ (zsI (zsI (zsI (zNew (zsI w 203 (ad 0 i) ((zI w 203 (ad 0 i)) - 1)) e9 1 0) 0 e9 t0) 1 e9 days) 2 e9 1) (ad 3 i) (oc B i) (some e9)) 208 (ad 0 i) ((zI w 208 (ad 0 i)) + 1)) 209 (ad 0 i) ((zI w 209 (ad 0 i)) + days)) ∧ rAll (zsI (zsI (zsQ (zsI (zsI (zsI (zNew (zsI w 203 (ad 0 i) ((zI w 203 (ad 0 i)) - 1)) e9 1 0) 0 e9 t0) 1 e9 days) 2 e9 1) (ad 3 i) (oc B i) (some e9)) 208 (ad 0 i) ((zI w 208 (ad 0 i)) + 1)) 209 (ad 0 i) ((zI w 209 (ad 0 i)) + days)) x ad' (sOff B i days (if 0 < B 6 i then 1 else 0)) := by
  subst ht
  have e6 : zI w 203 (ad 0 i) = B 6 i := h.2.2.2.2.1.2.2.2.1 i hi
  rw [e6] at hr
  obtain ⟨ad', ha, hc, hR⟩ := rw_off1 (ra_203 h hi ((zI w 203 (ad 0 i)) - 1)) hinv hi h50 hf (B 0 0) days 1
  refine ⟨ad', ha, cFr_tr (cFr_I (h.2.2.2.1 i hi).1 (by decide) 203 _) hc, ?_⟩
  rw [rg_pos hr]; rw [e6] at hR ⊢; exact hR
theorem rw_off_1n {w : zW} {x : Nat} {ad : Nat → Nat → Nat} {B : mB} {i e9 : Nat} {t0 days : Int32} (h : rAll w x ad B) (hinv : mInv B) (hi : i < nP B) (hix : ix (nI i) = i) (c9 : ¬ B 9 i = 50) (ht : t0 = B 0 0) (hr : ¬ (zI w 203 (ad 0 i)) ≤ 0) (hon : B 11 i = -1) (hf : zK (zsI w 203 (ad 0 i) ((zI w 203 (ad 0 i)) - 1)) e9 = 0) :
    Rep (zsI (zsI (zsQ (zsI (zsI (zsI (zNew (zsI w 203 (ad 0 i) ((zI w 203 (ad 0 i)) - 1)) e9 1 0) 0 e9 t0) 1 e9 days) 2 e9 1) (ad 3 i) (oc B i) (some e9)) 208 (ad 0 i) ((zI w 208 (ad 0 i)) + 1)) 209 (ad 0 i) ((zI w 209 (ad 0 i)) + days)) x (up_offence B (nI i) days) ∧ cFr w (zsI (zsI (zsQ (zsI (zsI (zsI (zNew (zsI w 203 (ad 0 i) ((zI w 203 (ad 0 i)) - 1)) e9 1 0) 0 e9 t0) 1 e9 days) 2 e9 1) (ad 3 i) (oc B i) (some e9)) 208 (ad 0 i) ((zI w 208 (ad 0 i)) + 1)) 209 (ad 0 i) ((zI w 209 (ad 0 i)) + days)) := by
  have h50 := mInv_oc hinv hi c9
  obtain ⟨ad', ha, hc, hR⟩ := rw_offA_1 (days := days) h hinv hi h50 ht hr hf
  rw [up_off_eq hix]
  have hz : z2 (sOff B i days (if 0 < B 6 i then 1 else 0)) 11 i (-1) = sOff B i days (if 0 < B 6 i then 1 else 0) := z2_id hon
  rw [hz]; exact ⟨⟨ad', hR⟩, hc⟩
theorem rw_off_1s {w : zW} {x : Nat} {ad : Nat → Nat → Nat} {B : mB} {i e9 : Nat} {t0 days : Int32} (h : rAll w x ad B) (hinv : mInv B) (hi : i < nP B) (hix : ix (nI i) = i) (c9 : ¬ B 9 i = 50) (ht : t0 = B 0 0) (hr : ¬ (zI w 203 (ad 0 i)) ≤ 0) (hon : ¬ B 11 i = -1) (hf : zK (zsI w 203 (ad 0 i) ((zI w 203 (ad 0 i)) - 1)) e9 = 0) :
    Rep (zsP (zsI (zsI (zsI (zsI (zsQ (zsI (zsI (zsI (zNew (zsI w 203 (ad 0 i) ((zI w 203 (ad 0 i)) - 1)) e9 1 0) 0 e9 t0) 1 e9 days) 2 e9 1) (ad 3 i) (oc B i) (some e9)) 208 (ad 0 i) ((zI w 208 (ad 0 i)) + 1)) 209 (ad 0 i) ((zI w 209 (ad 0 i)) + days)) 105 (ad 5 (ox B i)) ((zI w 105 (ad 5 (ox B i))) - 1)) 401 (ad 6 (kx B (ox B i))) ((zI w 401 (ad 6 (kx B (ox B i)))) - 1)) 210 (ad 0 i) none) x (up_offence B (nI i) days) ∧ cFr w (zsP (zsI (zsI (zsI (zsI (zsQ (zsI (zsI (zsI (zNew (zsI w 203 (ad 0 i) ((zI w 203 (ad 0 i)) - 1)) e9 1 0) 0 e9 t0) 1 e9 days) 2 e9 1) (ad 3 i) (oc B i) (some e9)) 208 (ad 0 i) ((zI w 208 (ad 0 i)) + 1)) 209 (ad 0 i) ((zI w 209 (ad 0 i)) + days)) 105 (ad 5 (ox B i)) ((zI w 105 (ad 5 (ox B i))) - 1)) 401 (ad 6 (kx B (ox B i))) ((zI w 401 (ad 6 (kx B (ox B i)))) - 1)) 210 (ad 0 i) none) := by
  have h50 := mInv_oc hinv hi c9
  obtain ⟨ad', ha, hc, hR⟩ := rw_offA_1 (days := days) h hinv hi h50 ht hr hf
  rw [up_off_eq hix]
  have hj : ox B i < nO B := ((hinv.2.2.1 i hi).2.2.2.2.resolve_left hon).2
  have k_o := (h.2.2.2.2.2.2.2.2.1 (ox B i) hj).1
  have k_t := (h.2.2.1 (kx B (ox B i)) (mInv_kx hinv hj).2).1
  have k_p := (h.2.2.2.1 i hi).1
  have hL := ra_leave hR (sOff_inv hinv hi c9) hi hon
  have eo : ox (sOff B i days (if 0 < B 6 i then 1 else 0)) i = ox B i := rfl
  have ek : kx (sOff B i days (if 0 < B 6 i then 1 else 0)) (ox B i) = kx B (ox B i) := rfl
  have old : zOld (zsI w 203 (ad 0 i) ((zI w 203 (ad 0 i)) - 1)) (zsI (zsI (zsI (zNew (zsI w 203 (ad 0 i) ((zI w 203 (ad 0 i)) - 1)) e9 1 0) 0 e9 t0) 1 e9 days) 2 e9 1) := zOld_I (zOld_I (zOld_I (zOld_N (zOld_rf _) hf) hf _ _) hf _ _) hf _ _
  have e1 : zI (zsI (zsI (zsQ (zsI (zsI (zsI (zNew (zsI w 203 (ad 0 i) ((zI w 203 (ad 0 i)) - 1)) e9 1 0) 0 e9 t0) 1 e9 days) 2 e9 1) (ad 3 i) (oc B i) (some e9)) 208 (ad 0 i) ((zI w 208 (ad 0 i)) + 1)) 209 (ad 0 i) ((zI w 209 (ad 0 i)) + days)) 105 (ad 5 (ox B i)) = zI w 105 (ad 5 (ox B i)) := (old _ (zk0 k_o (by decide))).2.1 105
  have e2 : zI (zsI (zsI (zsQ (zsI (zsI (zsI (zNew (zsI w 203 (ad 0 i) ((zI w 203 (ad 0 i)) - 1)) e9 1 0) 0 e9 t0) 1 e9 days) 2 e9 1) (ad 3 i) (oc B i) (some e9)) 208 (ad 0 i) ((zI w 208 (ad 0 i)) + 1)) 209 (ad 0 i) ((zI w 209 (ad 0 i)) + days)) 401 (ad 6 (kx B (ox B i))) = zI w 401 (ad 6 (kx B (ox B i))) := (old _ (zk0 k_t (by decide))).2.1 401
  rw [eo, ek, ha 5 _ (by decide), ha 6 _ (by decide), ha 0 _ (by decide), e1] at hL
  have e3 : zI (zsI (zsI (zsI (zsQ (zsI (zsI (zsI (zNew (zsI w 203 (ad 0 i) ((zI w 203 (ad 0 i)) - 1)) e9 1 0) 0 e9 t0) 1 e9 days) 2 e9 1) (ad 3 i) (oc B i) (some e9)) 208 (ad 0 i) ((zI w 208 (ad 0 i)) + 1)) 209 (ad 0 i) ((zI w 209 (ad 0 i)) + days)) 105 (ad 5 (ox B i)) (zI w 105 (ad 5 (ox B i)) - 1)) 401 (ad 6 (kx B (ox B i))) = zI w 401 (ad 6 (kx B (ox B i))) := e2
  refine ⟨⟨ad', ?_⟩, ?_⟩
  · first | exact hL | (rw [e2] at hL; exact hL) | (rw [e3] at hL; exact hL)
  · have q_o := (old _ (zk0 k_o (by decide))).1.trans k_o
    have q_t := (old _ (zk0 k_t (by decide))).1.trans k_t
    have q_p := (old _ (zk0 k_p (by decide))).1.trans k_p
    refine cP (k := 3) ?_ q_p (by decide)
    refine cI (k := 5) ?_ q_t (by decide)
    refine cI (k := 2) ?_ q_o (by decide)
    exact hc
theorem rw_offA_0 {w : zW} {x : Nat} {ad : Nat → Nat → Nat} {B : mB} {i e9 : Nat} {t0 days : Int32} (h : rAll w x ad B) (hinv : mInv B) (hi : i < nP B) (h50 : oc B i < 50) (ht : t0 = B 0 0) (hr : (zI w 203 (ad 0 i)) ≤ 0) (hf : zK w e9 = 0) :
    ∃ ad', (∀ t j, t ≠ 4 → ad' t j = ad t j) ∧ cFr w (zsI (zsI (zsQ (zsI (zsI (zsI (zNew w e9 1 0) 0 e9 t0) 1 e9 days) 2 e9 0) (ad 3 i) (oc B i) (some e9)) 208 (ad 0 i) ((zI w 208 (ad 0 i)) + 1)) 209 (ad 0 i) ((zI w 209 (ad 0 i)) + days)) ∧ rAll (zsI (zsI (zsQ (zsI (zsI (zsI (zNew w e9 1 0) 0 e9 t0) 1 e9 days) 2 e9 0) (ad 3 i) (oc B i) (some e9)) 208 (ad 0 i) ((zI w 208 (ad 0 i)) + 1)) 209 (ad 0 i) ((zI w 209 (ad 0 i)) + days)) x ad' (sOff B i days (if 0 < B 6 i then 1 else 0)) := by
  subst ht
  have e6 : zI w 203 (ad 0 i) = B 6 i := h.2.2.2.2.1.2.2.2.1 i hi
  rw [e6] at hr
  obtain ⟨ad', ha, hc, hR⟩ := rw_off1 h hinv hi h50 hf (B 0 0) days 0
  refine ⟨ad', ha, hc, ?_⟩
  have hz : z2 B 6 i (B 6 i - 0) = B := z2_id (Int32.sub_zero _).symm
  rw [rg_zero hr]; unfold sOff; rw [hz]; exact hR
theorem rw_off_0n {w : zW} {x : Nat} {ad : Nat → Nat → Nat} {B : mB} {i e9 : Nat} {t0 days : Int32} (h : rAll w x ad B) (hinv : mInv B) (hi : i < nP B) (hix : ix (nI i) = i) (c9 : ¬ B 9 i = 50) (ht : t0 = B 0 0) (hr : (zI w 203 (ad 0 i)) ≤ 0) (hon : B 11 i = -1) (hf : zK w e9 = 0) :
    Rep (zsI (zsI (zsQ (zsI (zsI (zsI (zNew w e9 1 0) 0 e9 t0) 1 e9 days) 2 e9 0) (ad 3 i) (oc B i) (some e9)) 208 (ad 0 i) ((zI w 208 (ad 0 i)) + 1)) 209 (ad 0 i) ((zI w 209 (ad 0 i)) + days)) x (up_offence B (nI i) days) ∧ cFr w (zsI (zsI (zsQ (zsI (zsI (zsI (zNew w e9 1 0) 0 e9 t0) 1 e9 days) 2 e9 0) (ad 3 i) (oc B i) (some e9)) 208 (ad 0 i) ((zI w 208 (ad 0 i)) + 1)) 209 (ad 0 i) ((zI w 209 (ad 0 i)) + days)) := by
  have h50 := mInv_oc hinv hi c9
  obtain ⟨ad', ha, hc, hR⟩ := rw_offA_0 (days := days) h hinv hi h50 ht hr hf
  rw [up_off_eq hix]
  have hz : z2 (sOff B i days (if 0 < B 6 i then 1 else 0)) 11 i (-1) = sOff B i days (if 0 < B 6 i then 1 else 0) := z2_id hon
  rw [hz]; exact ⟨⟨ad', hR⟩, hc⟩
theorem rw_off_0s {w : zW} {x : Nat} {ad : Nat → Nat → Nat} {B : mB} {i e9 : Nat} {t0 days : Int32} (h : rAll w x ad B) (hinv : mInv B) (hi : i < nP B) (hix : ix (nI i) = i) (c9 : ¬ B 9 i = 50) (ht : t0 = B 0 0) (hr : (zI w 203 (ad 0 i)) ≤ 0) (hon : ¬ B 11 i = -1) (hf : zK w e9 = 0) :
    Rep (zsP (zsI (zsI (zsI (zsI (zsQ (zsI (zsI (zsI (zNew w e9 1 0) 0 e9 t0) 1 e9 days) 2 e9 0) (ad 3 i) (oc B i) (some e9)) 208 (ad 0 i) ((zI w 208 (ad 0 i)) + 1)) 209 (ad 0 i) ((zI w 209 (ad 0 i)) + days)) 105 (ad 5 (ox B i)) ((zI w 105 (ad 5 (ox B i))) - 1)) 401 (ad 6 (kx B (ox B i))) ((zI w 401 (ad 6 (kx B (ox B i)))) - 1)) 210 (ad 0 i) none) x (up_offence B (nI i) days) ∧ cFr w (zsP (zsI (zsI (zsI (zsI (zsQ (zsI (zsI (zsI (zNew w e9 1 0) 0 e9 t0) 1 e9 days) 2 e9 0) (ad 3 i) (oc B i) (some e9)) 208 (ad 0 i) ((zI w 208 (ad 0 i)) + 1)) 209 (ad 0 i) ((zI w 209 (ad 0 i)) + days)) 105 (ad 5 (ox B i)) ((zI w 105 (ad 5 (ox B i))) - 1)) 401 (ad 6 (kx B (ox B i))) ((zI w 401 (ad 6 (kx B (ox B i)))) - 1)) 210 (ad 0 i) none) := by
  have h50 := mInv_oc hinv hi c9
  obtain ⟨ad', ha, hc, hR⟩ := rw_offA_0 (days := days) h hinv hi h50 ht hr hf
  rw [up_off_eq hix]
  have hj : ox B i < nO B := ((hinv.2.2.1 i hi).2.2.2.2.resolve_left hon).2
  have k_o := (h.2.2.2.2.2.2.2.2.1 (ox B i) hj).1
  have k_t := (h.2.2.1 (kx B (ox B i)) (mInv_kx hinv hj).2).1
  have k_p := (h.2.2.2.1 i hi).1
  have hL := ra_leave hR (sOff_inv hinv hi c9) hi hon
  have eo : ox (sOff B i days (if 0 < B 6 i then 1 else 0)) i = ox B i := rfl
  have ek : kx (sOff B i days (if 0 < B 6 i then 1 else 0)) (ox B i) = kx B (ox B i) := rfl
  have old : zOld w (zsI (zsI (zsI (zNew w e9 1 0) 0 e9 t0) 1 e9 days) 2 e9 0) := zOld_I (zOld_I (zOld_I (zOld_N (zOld_rf _) hf) hf _ _) hf _ _) hf _ _
  have e1 : zI (zsI (zsI (zsQ (zsI (zsI (zsI (zNew w e9 1 0) 0 e9 t0) 1 e9 days) 2 e9 0) (ad 3 i) (oc B i) (some e9)) 208 (ad 0 i) ((zI w 208 (ad 0 i)) + 1)) 209 (ad 0 i) ((zI w 209 (ad 0 i)) + days)) 105 (ad 5 (ox B i)) = zI w 105 (ad 5 (ox B i)) := (old _ (zk0 k_o (by decide))).2.1 105
  have e2 : zI (zsI (zsI (zsQ (zsI (zsI (zsI (zNew w e9 1 0) 0 e9 t0) 1 e9 days) 2 e9 0) (ad 3 i) (oc B i) (some e9)) 208 (ad 0 i) ((zI w 208 (ad 0 i)) + 1)) 209 (ad 0 i) ((zI w 209 (ad 0 i)) + days)) 401 (ad 6 (kx B (ox B i))) = zI w 401 (ad 6 (kx B (ox B i))) := (old _ (zk0 k_t (by decide))).2.1 401
  rw [eo, ek, ha 5 _ (by decide), ha 6 _ (by decide), ha 0 _ (by decide), e1] at hL
  have e3 : zI (zsI (zsI (zsI (zsQ (zsI (zsI (zsI (zNew w e9 1 0) 0 e9 t0) 1 e9 days) 2 e9 0) (ad 3 i) (oc B i) (some e9)) 208 (ad 0 i) ((zI w 208 (ad 0 i)) + 1)) 209 (ad 0 i) ((zI w 209 (ad 0 i)) + days)) 105 (ad 5 (ox B i)) (zI w 105 (ad 5 (ox B i)) - 1)) 401 (ad 6 (kx B (ox B i))) = zI w 401 (ad 6 (kx B (ox B i))) := e2
  refine ⟨⟨ad', ?_⟩, ?_⟩
  · first | exact hL | (rw [e2] at hL; exact hL) | (rw [e3] at hL; exact hL)
  · have q_o := (old _ (zk0 k_o (by decide))).1.trans k_o
    have q_t := (old _ (zk0 k_t (by decide))).1.trans k_t
    have q_p := (old _ (zk0 k_p (by decide))).1.trans k_p
    refine cP (k := 3) ?_ q_p (by decide)
    refine cI (k := 5) ?_ q_t (by decide)
    refine cI (k := 2) ?_ q_o (by decide)
    exact hc
theorem sk_bv (x : BitVec 32) (s : Nat) (hs : s < 32) : (x &&& (1#32 <<< s) = 0#32) ↔ x.getLsbD s = false := by
  have e : (1#32 <<< s) = BitVec.twoPow 32 s := (BitVec.twoPow_eq 32 s).symm
  rw [e, BitVec.and_twoPow]
  by_cases c : x.getLsbD s
  · rw [if_pos c]
    constructor
    · intro h
      have h2 := congrArg (fun z => BitVec.getLsbD z s) h
      simp [hs] at h2
    · intro h; rw [h] at c; cases c
  · rw [if_neg c]; simp at c; simp [c]

theorem sk_shl (s : Nat) (h : s < 4) : ((1 : Int32) <<< (nI s &&& 31)).toBitVec = 1#32 <<< s := by
  match s, h with
  | 0, _ => decide
  | 1, _ => decide
  | 2, _ => decide
  | 3, _ => decide
theorem sk_amt (s : Nat) (h : s < 4) : ((nI s &&& 31).toBitVec.smod 32#32).toNat = s := by
  match s, h with
  | 0, _ => decide
  | 1, _ => decide
  | 2, _ => decide
  | 3, _ => decide
theorem sk_shr (x : Int32) (s : Nat) (h : s < 4) : ((x >>> (nI s &&& 31)) &&& 1).toBitVec = (x.toBitVec.sshiftRight s) &&& 1#32 := by
  rw [Int32.toBitVec_and, Int32.toBitVec_shiftRight]
  show (x.toBitVec.sshiftRight ((nI s &&& 31).toBitVec.smod 32#32).toNat) &&& 1#32 = _
  rw [sk_amt s h]
theorem sk_bit (y : BitVec 32) : (y &&& 1#32 = 1#32) ↔ y.getLsbD 0 = true := by
  have h := sk_bv y 0 (by decide)
  rw [BitVec.shiftLeft_zero] at h
  have e : (1#32 : BitVec 32) = BitVec.twoPow 32 0 := by decide
  by_cases c : y.getLsbD 0 = true
  · constructor
    · intro _; exact c
    · intro _
      rw [e, BitVec.and_twoPow, if_pos c]
  · constructor
    · intro h2
      have h3 := h.mpr (by simpa using c)
      rw [h3] at h2; exact absurd h2 (by decide)
    · intro h2; exact absurd h2 c
theorem sk_eq (x : Int32) (s : Nat) (h : s < 4) : ((x &&& (1 <<< (nI s &&& 31))) = 0) ↔ ¬ ((x >>> (nI s &&& 31)) &&& 1 = 1) := by
  rw [← Int32.toBitVec_inj, ← Int32.toBitVec_inj (a := (x >>> (nI s &&& 31)) &&& 1), sk_shr x s h, Int32.toBitVec_and, sk_shl s h]
  show (x.toBitVec &&& 1#32 <<< s = 0#32) ↔ ¬ ((x.toBitVec.sshiftRight s) &&& 1#32 = 1#32)
  rw [sk_bv _ s (by omega), sk_bit, BitVec.getLsbD_sshiftRight]
  have h1 : ¬ (32 ≤ 0) := by decide
  have h2 : s + 0 < 32 := by omega
  simp [h2]
  intro h3; omega

