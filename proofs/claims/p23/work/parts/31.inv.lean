/-! WHAT THE OPERATIONS KEEP -/
def mJ (B : mB) : Prop := mInv B ∧ mInv2 B ∧ mInv3 B
theorem i2_6 {B : mB} {i : Nat} {v : Int32} (h : mInv2 B) (hv : v = 0 ∨ v = 1 ∨ v = 2) : mInv2 (z2 B 6 i v) := by
  refine ⟨fun k hk => ⟨?_, (h.1 k hk).2⟩, h.2⟩
  show z2 B 6 i v 6 k = 0 ∨ z2 B 6 i v 6 k = 1 ∨ z2 B 6 i v 6 k = 2
  rw [z2_at]; split
  · exact hv
  · exact (h.1 k hk).1
theorem i2_2 {B : mB} {i : Nat} {v : Int32} (h : mInv2 B) (hv : v = 0 ∨ v = 1) : mInv2 (z2 B 2 i v) := by
  refine ⟨fun k hk => ⟨(h.1 k hk).1, ?_, (h.1 k hk).2.2⟩, h.2⟩
  show z2 B 2 i v 2 k = 0 ∨ z2 B 2 i v 2 k = 1
  rw [z2_at]; split
  · exact hv
  · exact (h.1 k hk).2.1
theorem i2_16 {B : mB} {i : Nat} {v : Int32} (h : mInv2 B) (hv : 0 ≤ v ∧ v ≤ 50) : mInv2 (z2 B 16 i v) := by
  refine ⟨fun k hk => ⟨(h.1 k hk).1, (h.1 k hk).2.1, ?_⟩, h.2⟩
  show 0 ≤ z2 B 16 i v 16 k ∧ z2 B 16 i v 16 k ≤ 50
  rw [z2_at]; split
  · exact hv
  · exact (h.1 k hk).2.2
theorem i2_25 {B : mB} {i : Nat} {v : Int32} (h : mInv2 B) (hv : 0 ≤ v) : mInv2 (z2 B 25 i v) := by
  refine ⟨h.1, fun k hk => ?_⟩
  show 0 ≤ z2 B 25 i v 25 k
  rw [z2_at]; split
  · exact hv
  · exact h.2 k hk
theorem i3_z {B : mB} {f i : Nat} {v : Int32} (hi : i < nP B) (k : Nat) (hk : nP B ≤ k) : z2 B f i v f k = B f k := by
  rw [z2_at, if_neg (by omega)]
theorem i3_2 {B : mB} {i : Nat} {v : Int32} (h : mInv3 B) (hi : i < nP B) : mInv3 (z2 B 2 i v) := fun k hk => ⟨(i3_z hi k hk).trans (h k hk).1, (h k hk).2⟩
theorem i3_7 {B : mB} {i : Nat} {v : Int32} (h : mInv3 B) (hi : i < nP B) : mInv3 (z2 B 7 i v) := fun k hk => by
  obtain ⟨a2, a7, a8, a9, a10, a12, a13, a15, a16, a14⟩ := h k hk
  exact ⟨a2, (i3_z hi k hk).trans a7, a8, a9, a10, a12, a13, a15, a16, a14⟩
theorem i3_8 {B : mB} {i : Nat} {v : Int32} (h : mInv3 B) (hi : i < nP B) : mInv3 (z2 B 8 i v) := fun k hk => by
  obtain ⟨a2, a7, a8, a9, a10, a12, a13, a15, a16, a14⟩ := h k hk
  exact ⟨a2, a7, (i3_z hi k hk).trans a8, a9, a10, a12, a13, a15, a16, a14⟩
theorem i3_9 {B : mB} {i : Nat} {v : Int32} (h : mInv3 B) (hi : i < nP B) : mInv3 (z2 B 9 i v) := fun k hk => by
  obtain ⟨a2, a7, a8, a9, a10, a12, a13, a15, a16, a14⟩ := h k hk
  exact ⟨a2, a7, a8, (i3_z hi k hk).trans a9, a10, a12, a13, a15, a16, a14⟩
theorem i3_10 {B : mB} {i : Nat} {v : Int32} (h : mInv3 B) (hi : i < nP B) : mInv3 (z2 B 10 i v) := fun k hk => by
  obtain ⟨a2, a7, a8, a9, a10, a12, a13, a15, a16, a14⟩ := h k hk
  exact ⟨a2, a7, a8, a9, (i3_z hi k hk).trans a10, a12, a13, a15, a16, a14⟩
theorem i3_12 {B : mB} {i : Nat} {v : Int32} (h : mInv3 B) (hi : i < nP B) : mInv3 (z2 B 12 i v) := fun k hk => by
  obtain ⟨a2, a7, a8, a9, a10, a12, a13, a15, a16, a14⟩ := h k hk
  exact ⟨a2, a7, a8, a9, a10, (i3_z hi k hk).trans a12, a13, a15, a16, a14⟩
theorem i3_13 {B : mB} {i : Nat} {v : Int32} (h : mInv3 B) (hi : i < nP B) : mInv3 (z2 B 13 i v) := fun k hk => by
  obtain ⟨a2, a7, a8, a9, a10, a12, a13, a15, a16, a14⟩ := h k hk
  exact ⟨a2, a7, a8, a9, a10, a12, (i3_z hi k hk).trans a13, a15, a16, a14⟩
theorem i3_15 {B : mB} {i : Nat} {v : Int32} (h : mInv3 B) (hi : i < nP B) : mInv3 (z2 B 15 i v) := fun k hk => by
  obtain ⟨a2, a7, a8, a9, a10, a12, a13, a15, a16, a14⟩ := h k hk
  exact ⟨a2, a7, a8, a9, a10, a12, a13, (i3_z hi k hk).trans a15, a16, a14⟩
theorem i3_16 {B : mB} {i : Nat} {v : Int32} (h : mInv3 B) (hi : i < nP B) : mInv3 (z2 B 16 i v) := fun k hk => by
  obtain ⟨a2, a7, a8, a9, a10, a12, a13, a15, a16, a14⟩ := h k hk
  exact ⟨a2, a7, a8, a9, a10, a12, a13, a15, (i3_z hi k hk).trans a16, a14⟩
theorem i3_14 {B : mB} {i b : Nat} {v : Int32} (h : mInv3 B) (hi : i < nP B) (hb : b < 4) : mInv3 (z2 B 14 (4 * i + b) v) := fun k hk => by
  obtain ⟨a2, a7, a8, a9, a10, a12, a13, a15, a16, a14⟩ := h k hk
  have hk2 : nP B ≤ k := hk
  refine ⟨a2, a7, a8, a9, a10, a12, a13, a15, a16, fun j hj => ?_⟩
  show z2 B 14 (4 * i + b) v 14 (4 * k + j) = 0
  rw [z2_at, if_neg (by omega)]; exact a14 j hj
theorem mInv_9 {B : mB} {i : Nat} (h : mInv B) (hi : i < nP B) (c : ¬ B 9 i = 50) : mInv (z2 B 9 i (B 9 i + 1)) := by
  obtain ⟨h1, h2, h3, h4⟩ := h
  have hc : pp B i < 50 := by
    obtain ⟨q1, q2, q3, q4, q5⟩ := h3 i hi
    rcases Nat.lt_or_ge (pp B i) 50 with q | q
    · exact q
    · have e : pp B i = 50 := Nat.le_antisymm q4 q
      exact absurd (by rw [q2, e]; rfl) c
  refine ⟨h1, h2, fun k hk => ?_, h4⟩
  obtain ⟨q1, q2, q3, q4, q5⟩ := h3 k hk
  by_cases e : k = i
  · subst e
    have a2 : z2 B 9 k (B 9 k + 1) 9 k = nI (pp B k + 1) := (z2_same B 9 k _).trans (by rw [q2, nI_1])
    have b2 : pp (z2 B 9 k (B 9 k + 1)) k = pp B k + 1 := by unfold pp at a2 ⊢; rw [a2, ix_nI (by unfold pp at hc; omega)]
    rw [b2]; exact ⟨q1, a2, by show oc B k ≤ _; omega, by omega, q5⟩
  · have a2 : z2 B 9 i (B 9 i + 1) 9 k = B 9 k := z2_ne2 B 9 9 _ e
    have b2 : pp (z2 B 9 i (B 9 i + 1)) k = pp B k := congrArg ix a2
    rw [b2, a2]; exact ⟨q1, q2, q3, q4, q5⟩
theorem mInv_11 {B : mB} {i j : Nat} (h : mInv B) (hj : j < nO B) : mInv (z2 B 11 i (nI j)) := by
  obtain ⟨h1, h2, h3, h4⟩ := h
  refine ⟨h1, h2, fun k hk => ?_, h4⟩
  obtain ⟨q1, q2, q3, q4, q5⟩ := h3 k hk
  refine ⟨q1, q2, q3, q4, ?_⟩
  show z2 B 11 i (nI j) 11 k = -1 ∨ (z2 B 11 i (nI j) 11 k = nI (ix (z2 B 11 i (nI j) 11 k)) ∧ ix (z2 B 11 i (nI j) 11 k) < nO B)
  rw [z2_at]; split
  · have := h2.1; rw [ix_nI (by omega)]; exact Or.inr ⟨rfl, hj⟩
  · exact q5
theorem mInv_off {B : mB} {i : Nat} (h : mInv B) : mInv (z2 B 11 i (-1)) := by
  refine (mInv_same (Y := z2 B 11 i (-1)) h ⟨rfl, rfl, fun _ => rfl, fun _ => rfl, fun k => ?_, fun _ => rfl, fun _ => rfl⟩).1
  rw [z2_at]; split
  · exact Or.inr rfl
  · exact Or.inl rfl
theorem rg_up {r : Int32} (h : r = 0 ∨ r = 1 ∨ r = 2) : (r + (if r < 2 then 1 else 0)) = 0 ∨ (r + (if r < 2 then 1 else 0)) = 1 ∨ (r + (if r < 2 then 1 else 0)) = 2 := by
  rcases h with rfl | rfl | rfl <;> decide
theorem rg_dn {r : Int32} (h : r = 0 ∨ r = 1 ∨ r = 2) : (r - (if 0 < r then 1 else 0)) = 0 ∨ (r - (if 0 < r then 1 else 0)) = 1 ∨ (r - (if 0 < r then 1 else 0)) = 2 := by
  rcases h with rfl | rfl | rfl <;> decide
theorem J_course {B : mB} {i : Nat} {sk days : Int32} (h : mJ B) (hi : i < nP B) (hix : ix (nI i) = i) (c : ¬ B 9 i = 50) : mJ (up_course B (nI i) sk days) := by
  obtain ⟨h1, h2, h3⟩ := h
  unfold up_course sRaise
  rw [hix]
  refine ⟨mInv_9 h1 hi c, i2_6 (show mInv2 (z2 (z2 (z2 B 5 i _) 8 i _) 9 i _) from h2) (rg_up (h2.1 i hi).1), ?_⟩
  exact i3_9 (B := z2 (z2 B 5 i _) 8 i _) (i3_8 (B := z2 B 5 i _) h3 hi) hi
theorem J_offence {B : mB} {i : Nat} {days : Int32} (h : mJ B) (hi : i < nP B) (hix : ix (nI i) = i) (c : ¬ B 9 i = 50) : mJ (up_offence B (nI i) days) := by
  obtain ⟨h1, h2, h3⟩ := h
  rw [up_off_eq hix]
  refine ⟨mInv_off (sOff_inv h1 hi c), i2_6 (i := i) h2 (rg_dn (h2.1 i hi).1), ?_⟩
  · unfold sOff
    exact i3_10 (B := z2 (z2 (z2 (z2 (z2 (z2 B 6 i _) 17 _ _) 18 _ _) 19 _ _) 20 _ _) 9 i _) (i3_9 (B := z2 (z2 (z2 (z2 (z2 B 6 i _) 17 _ _) 18 _ _) 19 _ _) 20 _ _) h3 hi) hi
theorem J_appeal {B : mB} {i k : Nat} (h : mJ B) (hi : i < nP B) (hix : ix (nI i) = i) : mJ (up_appeal B (nI i) (nI k)) := by
  obtain ⟨h1, h2, h3⟩ := h
  unfold up_appeal sRaise
  rw [hix]
  split
  · exact ⟨h1, h2, h3⟩
  · exact ⟨h1, i2_6 (B := z2 B 20 _ 1) h2 (rg_up (h2.1 i hi).1), h3⟩
theorem J_setTools {B : mB} {k n : Int32} (h : mJ B) : mJ (up_setTools B k n) := h
theorem J_takeOff {B : mB} {i : Nat} (h : mJ B) (hix : ix (nI i) = i) : mJ (up_takeOff B (nI i)) := by
  obtain ⟨h1, h2, h3⟩ := h
  unfold up_takeOff
  rw [hix]
  exact ⟨mInv_off h1, h2, h3⟩
theorem J_assign {B : mB} {i j : Nat} (h : mJ B) (hj : j < nO B) (hix : ix (nI i) = i) : mJ (up_assign B (nI i) (nI j)) := by
  obtain ⟨h1, h2, h3⟩ := h
  unfold up_assign
  rw [hix]
  exact ⟨mInv_11 h1 hj, h2, h3⟩
theorem J_buy {B : mB} {i : Nat} {a : Int32} (h : mJ B) (hi : i < nP B) (hix : ix (nI i) = i) (h1a : vLies a 1 1000 = true) (hr : a ≤ sRest B i) : mJ (up_buy B (nI i) a) := by
  obtain ⟨h1, h2, h3⟩ := h
  have ho := (mInv_oc50 h1 hi).2
  have r := sMost_rng (h2.1 i hi).1 (oc B i) ho
  have b16 := (h2.1 i hi).2.2
  have ht : 0 ≤ sTop B i ∧ sTop B i ≤ 50 := by
    unfold sTop
    by_cases c : sMost B i (oc B i) < 0
    · rw [if_pos c]; decide
    · rw [if_neg c]
      refine ⟨Int32.not_lt.mp c, ?_⟩
      rw [Int32.le_iff_toInt_le]; exact r.2
  have hbb : 0 ≤ sBought B i ∧ sBought B i ≤ 50 := by
    unfold sBought; split
    · exact b16
    · decide
  have h0 : (0 : Int32).toInt = 0 := rfl
  have h50 : (50 : Int32).toInt = 50 := rfl
  have h1' : (1 : Int32).toInt = 1 := rfl
  have ha : 1 ≤ a.toInt := by
    unfold vLies at h1a
    simp only [Bool.and_eq_true, decide_eq_true_eq, Int32.lt_iff_toInt_lt, h1'] at h1a
    omega
  simp only [Int32.le_iff_toInt_le, h0, h50] at ht hbb
  have hs : a.toInt + (sBought B i).toInt ≤ 50 := by
    unfold sRest at hr
    split at hr
    · split at hr
      · rw [Int32.le_iff_toInt_le, h0] at hr; omega
      · rw [Int32.le_iff_toInt_le, i32_sub_toInt (by omega) (by omega)] at hr; omega
    · rw [Int32.le_iff_toInt_le, h0] at hr; omega
  have e : (sBought B i + a).toInt = (sBought B i).toInt + a.toInt := by
    rw [Int32.toInt_add]; exact Int.bmod_eq_of_le (by omega) (by omega)
  unfold up_buy
  rw [hix]
  refine ⟨h1, i2_16 (i := i) (v := sBought B i + a) h2 ?_, ?_⟩
  · rw [Int32.le_iff_toInt_le, Int32.le_iff_toInt_le, h0, h50, e]; omega
  · exact i3_14 (B := z2 (z2 B 16 i _) 15 i _) (i3_15 (B := z2 B 16 i _) (i3_16 h3 hi) hi) hi (by decide)
theorem J_addOrder {B : mB} {s9 k9 : Nat} {w9 g9 : Int32} (h : mJ B) (hs : s9 < 4) (hk : k9 < 3) (hw : vLies w9 1 500 = true) (h8 : nO B < 8) : mJ (up_addOrder B (nI s9) (nI k9) w9 g9) := by
  obtain ⟨⟨q1, q2, q3, q4⟩, h2, h3⟩ := h
  have n1 : nO (up_addOrder B (nI s9) (nI k9) w9 g9) = nO B + 1 := by
    show ix (z2 (z2 (z2 (z2 (z2 B 23 (nO B) (nI s9)) 24 (nO B) (nI k9)) 25 (nO B) w9) 26 (nO B) g9) 22 0 (B 22 0 + 1) 22 0) = _
    rw [z2_same, q2.2, nI_1, ix_nI (by omega)]
  have h1' : (1 : Int32).toInt = 1 := rfl
  have h0 : (0 : Int32).toInt = 0 := rfl
  have ha : 0 ≤ w9 := by
    unfold vLies at hw
    simp only [Bool.and_eq_true, decide_eq_true_eq, Int32.lt_iff_toInt_lt, h1'] at hw
    rw [Int32.le_iff_toInt_le, h0]; omega
  refine ⟨⟨q1, ⟨by rw [n1]; omega, ?_⟩, fun i hi => ?_, fun j hj => ?_⟩, ⟨h2.1, fun j hj => ?_⟩, h3⟩
  · rw [n1]
    show z2 (z2 (z2 (z2 (z2 B 23 (nO B) (nI s9)) 24 (nO B) (nI k9)) 25 (nO B) w9) 26 (nO B) g9) 22 0 (B 22 0 + 1) 22 0 = _
    rw [z2_same, q2.2, nI_1]
  · obtain ⟨p1, p2, p3, p4, p5⟩ := q3 i hi
    refine ⟨p1, p2, p3, p4, ?_⟩
    rw [n1]
    rcases p5 with c | c
    · exact Or.inl c
    · exact Or.inr ⟨c.1, Nat.lt_succ_of_lt c.2⟩
  · rw [n1] at hj
    have z23 : up_addOrder B (nI s9) (nI k9) w9 g9 23 j = va_up (B 23) (nO B) (nI s9) j := rfl
    have z24 : up_addOrder B (nI s9) (nI k9) w9 g9 24 j = va_up (B 24) (nO B) (nI k9) j := rfl
    unfold kx sx
    rw [z23, z24]
    rcases lt1 hj with c | c
    · rw [up0 (by omega), up0 (by omega)]; exact q4 j c
    · subst c; rw [up1, up1, ix_nI (by omega), ix_nI (by omega)]; exact ⟨rfl, hk, rfl, hs⟩
  · rw [n1] at hj
    have z25 : up_addOrder B (nI s9) (nI k9) w9 g9 25 j = va_up (B 25) (nO B) w9 j := rfl
    rw [z25]
    rcases lt1 hj with c | c
    · rw [up0 (by omega)]; exact h2.2 j c
    · subst c; rw [up1]; exact ha
theorem J_admit {B : mB} {d k9 : Int32} (h : mJ B) (h10 : nP B < 10) : mJ (up_admit B d k9) := by
  obtain ⟨⟨q1, q2, q3, q4⟩, h2, h3⟩ := h
  obtain ⟨m2, m7, m8, m9, m10, m12, m13, m15, m16, m14⟩ := h3 (nP B) (Nat.le_refl _)
  have n1 : nP (up_admit B d k9) = nP B + 1 := by
    show ix (z2 (z2 (z2 (z2 (z2 (z2 B 3 (nP B) (B 0 0)) 4 (nP B) d) 5 (nP B) k9) 6 (nP B) 1) 11 (nP B) (-1)) 1 0 (B 1 0 + 1) 1 0) = _
    rw [z2_same, q1.2, nI_1, ix_nI (by omega)]
  refine ⟨⟨⟨by rw [n1]; omega, ?_⟩, q2, fun i hi => ?_, q4⟩, ⟨fun i hi => ?_, h2.2⟩, fun i hi => ?_⟩
  · rw [n1]
    show z2 (z2 (z2 (z2 (z2 (z2 B 3 (nP B) (B 0 0)) 4 (nP B) d) 5 (nP B) k9) 6 (nP B) 1) 11 (nP B) (-1)) 1 0 (B 1 0 + 1) 1 0 = _
    rw [z2_same, q1.2, nI_1]
  · rw [n1] at hi
    have z11 : up_admit B d k9 11 i = va_up (B 11) (nP B) (-1) i := rfl
    have zo : ox (up_admit B d k9) i = ix (va_up (B 11) (nP B) (-1) i) := rfl
    have zn : nO (up_admit B d k9) = nO B := rfl
    rw [z11, zo, zn]
    show B 10 i = nI (oc B i) ∧ B 9 i = nI (pp B i) ∧ oc B i ≤ pp B i ∧ pp B i ≤ 50 ∧ _
    rcases lt1 hi with c | c
    · rw [up0 (by omega)]; exact q3 i c
    · subst c
      rw [up1]
      have o0 : oc B (nP B) = 0 := by unfold oc; rw [m10]; rfl
      have p0 : pp B (nP B) = 0 := by unfold pp; rw [m9]; rfl
      rw [o0, p0, m10, m9]; exact ⟨rfl, rfl, Nat.le_refl _, by omega, Or.inl rfl⟩
  · rw [n1] at hi
    have z6 : up_admit B d k9 6 i = va_up (B 6) (nP B) 1 i := rfl
    rw [z6]
    show _ ∧ (B 2 i = 0 ∨ B 2 i = 1) ∧ 0 ≤ B 16 i ∧ B 16 i ≤ 50
    rcases lt1 hi with c | c
    · rw [up0 (by omega)]; exact h2.1 i c
    · subst c; rw [up1, m2, m16]; exact ⟨Or.inr (Or.inl rfl), Or.inl rfl, by decide, by decide⟩
  · rw [n1] at hi
    exact h3 i (by omega)
/-! a day -/
def mK (X : mB) : Prop := mInv2 X ∧ mInv3 X
theorem K_25 {X : mB} {j : Nat} (h : mK X) (hz : ¬ X 25 j = 0) (hj : j < nO X) : mK (z2 X 25 j (X 25 j - 1)) := by
  refine ⟨i2_25 h.1 ?_, h.2⟩
  have h9 := h.1.2 j hj
  have h0 : (0 : Int32).toInt = 0 := rfl
  have h1' : (1 : Int32).toInt = 1 := rfl
  have hne : (X 25 j).toInt ≠ 0 := fun e => hz (Int32.toInt_inj.mp (e.trans h0.symm))
  have hup : (X 25 j).toInt < 2147483648 := Int32.toInt_lt _
  rw [Int32.le_iff_toInt_le, h0] at h9 ⊢
  rw [i32_sub_toInt (by rw [h1']; omega) (by rw [h1']; omega), h1']; omega
theorem K_work {X : mB} {i : Nat} (h : mK X) (hinv : mInv X) (hi : i < nP X) : mK (sWork X i) := by
  unfold sWork
  split
  · exact h
  · rename_i c
    have c1 : ¬ X 11 i = -1 := fun z => c (Or.inl z)
    have c2 : ¬ X 25 (ox X i) = 0 := fun z => c (Or.inr z)
    have hj := ((hinv.2.2.1 i hi).2.2.2.2.resolve_left c1).2
    have k1 := K_25 h c2 hj
    refine ⟨k1.1, ?_⟩
    have e7 := i3_7 (B := z2 X 25 (ox X i) (X 25 (ox X i) - 1)) (i := i) (v := X 7 i + 1) h.2 hi
    have a0 := i3_14 (i := i) (b := 0) (v := X 14 (4 * i + 0) + X 26 (ox X i) * 30 / 100) e7 hi (by decide)
    have a1 := i3_14 (i := i) (b := 1) (v := X 14 (4 * i + 1) + X 26 (ox X i) * 20 / 100) a0 hi (by decide)
    have a2 := i3_14 (i := i) (b := 2) (v := X 14 (4 * i + 2) + X 26 (ox X i) * 30 / 100) a1 hi (by decide)
    exact i3_14 (i := i) (b := 3) a2 hi (by decide)
theorem K_leave {X : mB} {i : Nat} (h : mK X) : mK (sLeave X i) := h
theorem K_go {X : mB} {i : Nat} (h : mK X) (hi : i < nP X) : mK (sGo X i) := by
  unfold sGo
  split
  · split
    · refine ⟨i2_2 (i := i) (v := 1) h.1 (Or.inr rfl), ?_⟩
      have e2 := i3_2 (i := i) (v := 1) h.2 hi
      have e12 := i3_12 (i := i) (v := X 0 0) e2 hi
      have e13 := i3_13 (B := z2 (z2 (z2 X 2 i 1) 12 i (X 0 0)) 11 i (-1)) (i := i) (v := X 14 (4 * i + 2) + X 14 (4 * i + 3)) e12 hi
      exact i3_14 (i := i) (b := 3) (v := 0) (i3_14 (i := i) (b := 2) (v := 0) e13 hi (by decide)) hi (by decide)
    · exact h
  · exact h
theorem K_works {X : mB} (h : mK X) (hinv : mInv X) : ∀ k, k ≤ nP X → mK (sWorks X k)
  | 0, _ => h
  | k + 1, hk => by
    obtain ⟨i1, n1, -⟩ := mInv_same hinv (sWorks_same X k)
    exact K_work (K_works h hinv k (by omega)) i1 (by rw [n1]; omega)
theorem K_leaves {X : mB} (h : mK X) : ∀ k, mK (sLeaves X k)
  | 0 => h
  | k + 1 => K_leave (K_leaves h k)
theorem K_goes {X : mB} (h : mK X) (hinv : mInv X) : ∀ k, k ≤ nP X → mK (sGoes X k)
  | 0, _ => h
  | k + 1, hk => by
    obtain ⟨i1, n1, -⟩ := mInv_same hinv (sGoes_same X k)
    exact K_go (K_goes h hinv k (by omega)) (by rw [n1]; omega)
theorem K_morn {X : mB} (h : mK X) (hinv : mInv X) : mK (sMorn X) := by
  exact K_leaves (K_works h hinv (nP X) (Nat.le_refl _)) (nP X)
theorem K_day {X : mB} (h : mK X) (hinv : mInv X) : mK (sDay X) := by
  obtain ⟨i1, n1, -⟩ := mInv_same hinv (sMorn_same X)
  exact K_goes (K_morn h hinv) i1 (nP X) (by rw [n1]; exact Nat.le_refl _)
theorem K_days {X : mB} (h : mK X) (hinv : mInv X) : ∀ k, mK (sDays X k)
  | 0 => h
  | k + 1 => K_day (K_days h hinv k) (mInv_same hinv (sDays_same X k)).1
theorem J_days {X : mB} (h : mJ X) (k : Nat) : mJ (sDays X k) := ⟨(mInv_same h.1 (sDays_same X k)).1, K_days h.2 h.1 k⟩
theorem J_pass {B : mB} {d : Int32} (h : mJ B) : mJ (up_pass B d) := J_days h _
