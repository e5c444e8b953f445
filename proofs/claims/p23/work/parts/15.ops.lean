/-! THE OPERATIONS: which throw (cd, 0: none), the state behind (up), the answer (an) -/
theorem mInv_27 {B : mB} (h : mInv B) (v : Int32) : mInv (z2 B 27 0 v) := h
def mSame (X Y : mB) : Prop := Y 1 0 = X 1 0 ∧ Y 22 0 = X 22 0 ∧ (∀ i, Y 10 i = X 10 i) ∧ (∀ i, Y 9 i = X 9 i) ∧ (∀ i, Y 11 i = X 11 i ∨ Y 11 i = -1) ∧ (∀ j, Y 24 j = X 24 j) ∧ (∀ j, Y 23 j = X 23 j)
theorem mSame_rf (X : mB) : mSame X X := ⟨rfl, rfl, fun _ => rfl, fun _ => rfl, fun _ => Or.inl rfl, fun _ => rfl, fun _ => rfl⟩
theorem mSame_tr {X Y Z : mB} (h : mSame X Y) (k : mSame Y Z) : mSame X Z := by
  obtain ⟨a1, a2, a3, a4, a5, a6, a7⟩ := h
  obtain ⟨b1, b2, b3, b4, b5, b6, b7⟩ := k
  refine ⟨b1.trans a1, b2.trans a2, fun i => (b3 i).trans (a3 i), fun i => (b4 i).trans (a4 i), fun i => ?_, fun j => (b6 j).trans (a6 j), fun j => (b7 j).trans (a7 j)⟩
  rcases b5 i with h | h
  · rw [h]; exact a5 i
  · exact Or.inr h
theorem mInv_same {X Y : mB} (h : mInv X) (k : mSame X Y) : mInv Y ∧ nP Y = nP X ∧ nO Y = nO X := by
  obtain ⟨h1, h2, h3, h4⟩ := h
  obtain ⟨b1, b2, b3, b4, b5, b6, b7⟩ := k
  have e1 : nP Y = nP X := by unfold nP; rw [b1]
  have e2 : nO Y = nO X := by unfold nO; rw [b2]
  refine ⟨⟨by rw [e1, b1]; exact h1, by rw [e2, b2]; exact h2, fun i hi => ?_, fun j hj => ?_⟩, e1, e2⟩
  · rw [e1] at hi
    obtain ⟨q1, q2, q3, q4, q5⟩ := h3 i hi
    have o1 : oc Y i = oc X i := by unfold oc; rw [b3]
    have o2 : pp Y i = pp X i := by unfold pp; rw [b4]
    refine ⟨by rw [b3, o1]; exact q1, by rw [b4, o2]; exact q2, by rw [o1, o2]; exact q3, by rw [o2]; exact q4, ?_⟩
    rcases b5 i with h | h
    · have o3 : ox Y i = ox X i := by unfold ox; rw [h]
      rw [h, o3, e2]; exact q5
    · exact Or.inl h
  · rw [e2] at hj
    have o1 : kx Y j = kx X j := by unfold kx; rw [b6]
    have o2 : sx Y j = sx X j := by unfold sx; rw [b7]
    rw [b6, b7, o1, o2]; exact h4 j hj
def sWork (X : mB) (i : Nat) : mB := if X 11 i = -1 ∨ X 25 (ox X i) = 0 then X else
  z2 (z2 (z2 (z2 (z2 (z2 X 25 (ox X i) (X 25 (ox X i) - 1)) 7 i (X 7 i + 1)) 14 (4 * i + 0) (X 14 (4 * i + 0) + X 26 (ox X i) * 30 / 100)) 14 (4 * i + 1) (X 14 (4 * i + 1) + X 26 (ox X i) * 20 / 100)) 14 (4 * i + 2) (X 14 (4 * i + 2) + X 26 (ox X i) * 30 / 100)) 14 (4 * i + 3) (X 14 (4 * i + 3) + (X 26 (ox X i) - X 26 (ox X i) * 30 / 100 - X 26 (ox X i) * 20 / 100 - X 26 (ox X i) * 30 / 100))
def sWorks (X : mB) : Nat → mB
  | 0 => X
  | k + 1 => sWork (sWorks X k) k
def sLeave (X : mB) (i : Nat) : mB := z2 X 11 i (if X 11 i = -1 then -1 else if X 25 (ox X i) = 0 then -1 else X 11 i)
def sLeaves (X : mB) : Nat → mB
  | 0 => X
  | k + 1 => sLeave (sLeaves X k) k
def sStays (X : mB) (i : Nat) : Prop := X 2 i ≠ 0 ∨ ¬ sRel X i ≤ X 0 0
def sGo (X : mB) (i : Nat) : mB := if X 2 i = 0 then (if sRel X i ≤ X 0 0 then
  z2 (z2 (z2 (z2 (z2 (z2 X 2 i 1) 12 i (X 0 0)) 11 i (-1)) 13 i (X 14 (4 * i + 2) + X 14 (4 * i + 3))) 14 (4 * i + 2) 0) 14 (4 * i + 3) 0 else X) else X
def sGoN (X : mB) (i : Nat) : Int32 := if X 2 i = 0 then (if sRel X i ≤ X 0 0 then 1 else 0) else 0
def sGoes (X : mB) : Nat → mB
  | 0 => X
  | k + 1 => sGo (sGoes X k) k
/-- how many are released, n counted before -/
def sGoesN (X : mB) (n : Int32) : Nat → Int32
  | 0 => n
  | k + 1 => sGoesN X n k + sGoN (sGoes X k) k
def sTick (X : mB) : mB := z2 X 0 0 (X 0 0 + 1)
/-- a day's work and leaving, and the new day -/
def sMorn (X : mB) : mB := sTick (sLeaves (sWorks X (nP X)) (nP X))
def sDay (X : mB) : mB := sGoes (sMorn X) (nP X)
def sDays (X : mB) : Nat → mB
  | 0 => X
  | d + 1 => sDay (sDays X d)
def sDaysN (X : mB) : Nat → Int32
  | 0 => 0
  | d + 1 => sGoesN (sMorn (sDays X d)) (sDaysN X d) (nP (sDays X d))
theorem sWork_same (X : mB) (i : Nat) : mSame X (sWork X i) := by
  unfold sWork; split
  · exact mSame_rf X
  · exact ⟨rfl, rfl, fun _ => rfl, fun _ => rfl, fun _ => Or.inl rfl, fun _ => rfl, fun _ => rfl⟩
theorem sLeave_same (X : mB) (i : Nat) : mSame X (sLeave X i) := by
  refine ⟨rfl, rfl, fun _ => rfl, fun _ => rfl, fun k => ?_, fun _ => rfl, fun _ => rfl⟩
  unfold sLeave
  rw [z2_at]
  by_cases h : k = i
  · subst h; rw [if_pos rfl]; split
    · exact Or.inr rfl
    · split
      · exact Or.inr rfl
      · exact Or.inl rfl
  · rw [if_neg h]; exact Or.inl rfl
theorem sGo_same (X : mB) (i : Nat) : mSame X (sGo X i) := by
  unfold sGo; split
  · split
    · refine ⟨rfl, rfl, fun _ => rfl, fun _ => rfl, fun k => ?_, fun _ => rfl, fun _ => rfl⟩
      show z2 X 11 i (-1) 11 k = X 11 k ∨ z2 X 11 i (-1) 11 k = -1
      rw [z2_at]
      by_cases h : k = i
      · rw [if_pos h]; exact Or.inr rfl
      · rw [if_neg h]; exact Or.inl rfl
    · exact mSame_rf X
  · exact mSame_rf X
theorem sTick_same (X : mB) : mSame X (sTick X) := ⟨rfl, rfl, fun _ => rfl, fun _ => rfl, fun _ => Or.inl rfl, fun _ => rfl, fun _ => rfl⟩
theorem sWorks_same (X : mB) : ∀ k, mSame X (sWorks X k)
  | 0 => mSame_rf X
  | k + 1 => mSame_tr (sWorks_same X k) (sWork_same _ k)
theorem sLeaves_same (X : mB) : ∀ k, mSame X (sLeaves X k)
  | 0 => mSame_rf X
  | k + 1 => mSame_tr (sLeaves_same X k) (sLeave_same _ k)
theorem sGoes_same (X : mB) : ∀ k, mSame X (sGoes X k)
  | 0 => mSame_rf X
  | k + 1 => mSame_tr (sGoes_same X k) (sGo_same _ k)
theorem sMorn_same (X : mB) : mSame X (sMorn X) := mSame_tr (mSame_tr (sWorks_same X _) (sLeaves_same _ _)) (sTick_same _)
theorem sDays_same (X : mB) : ∀ k, mSame X (sDays X k)
  | 0 => mSame_rf X
  | k + 1 => mSame_tr (sDays_same X k) (mSame_tr (sMorn_same _) (sGoes_same _ _))
def cd_admit (B : mB) (d k : Int32) : Int32 := if vLies d 1 2000 = true ∧ vLies k 0 15 = true then (if B 1 0 = 10 then 2 else 0) else 1
def up_admit (X : mB) (d k : Int32) : mB := z2 (z2 (z2 (z2 (z2 (z2 X 3 (nP X) (X 0 0)) 4 (nP X) d) 5 (nP X) k) 6 (nP X) 1) 11 (nP X) (-1)) 1 0 (X 1 0 + 1)
def an_admit (X : mB) : Int32 := X 1 0 + 1 - 1
def cd_course (B : mB) (its what days : Int32) : Int32 := if vP B its = true ∧ vLies what 0 3 = true then (if vLies days 0 100 = true then (if B 2 (ix its) = 0 then (if B 9 (ix its) = 50 then 3 else 0) else 3) else 2) else 1
def up_course (X : mB) (its what days : Int32) : mB := sRaise (z2 (z2 (z2 X 5 (ix its) (X 5 (ix its) ||| (1 <<< (what &&& 31)))) 8 (ix its) (X 8 (ix its) + days)) 9 (ix its) (X 9 (ix its) + 1)) (ix its)
def an_course (X : mB) (its what days : Int32) : Int32 := sRel (up_course X its what days) (ix its)
def cd_offence (B : mB) (its days : Int32) : Int32 := if vP B its = true then (if vLies days 0 100 = true then (if B 2 (ix its) = 0 then (if B 9 (ix its) = 50 then 3 else 0) else 3) else 2) else 1
def up_offence (X : mB) (its days : Int32) : mB := z2 (z2 (z2 (z2 (z2 (z2 (z2 (z2 X 17 (50 * ix its + oc X (ix its)) days) 18 (50 * ix its + oc X (ix its)) (X 0 0)) 19 (50 * ix its + oc X (ix its)) (if 0 < X 6 (ix its) then 1 else 0)) 20 (50 * ix its + oc X (ix its)) 0) 6 (ix its) (X 6 (ix its) - (if 0 < X 6 (ix its) then 1 else 0))) 11 (ix its) (-1)) 9 (ix its) (X 9 (ix its) + 1)) 10 (ix its) (X 10 (ix its) + 1)
def an_offence (X : mB) (its : Int32) : Int32 := X 10 (ix its) + 1 - 1
def cd_appeal (B : mB) (its which : Int32) : Int32 := if vP B its = true ∧ vLies which 0 (B 10 (ix its) - 1) = true then (if B 2 (ix its) = 0 then (if B 20 (50 * ix its + ix which) = 0 then 0 else 2) else 2) else 1
def up_appeal (X : mB) (its which : Int32) : mB := if X 19 (50 * ix its + ix which) = 0 then z2 X 20 (50 * ix its + ix which) 1 else sRaise (z2 X 20 (50 * ix its + ix which) 1) (ix its)
def an_appeal (X : mB) (its which : Int32) : Int32 := sRel (up_appeal X its which) (ix its)
def cd_P (B : mB) (its : Int32) : Int32 := if vP B its = true then 0 else 1
def up_0 (X : mB) : mB := X
def an_release (X : mB) (its : Int32) : Int32 := sRel X (ix its)
def an_isIn (X : mB) (its : Int32) : Int32 := if X 2 (ix its) = 0 then 1 else 0
def an_of (X : mB) (f : Nat) (its : Int32) : Int32 := X f (ix its)
def an_papers (X : mB) (its lost : Int32) : Int32 := if lost = 0 then sGain X (ix its) else sLoss X (ix its)
def cd_setTools (B : mB) (k n : Int32) : Int32 := if vLies k 0 2 = true then (if vLies n 0 20 = true then (if n < sOut B k (nP B) then 3 else 0) else 2) else 1
def up_setTools (X : mB) (k n : Int32) : mB := z2 X 21 (ix k) n
def an_setTools (X : mB) (k : Int32) : Int32 := X 21 (ix k)
def cd_K (_ : mB) (k : Int32) : Int32 := if vLies k 0 2 = true then 0 else 1
def an_toolsOut (X : mB) (k : Int32) : Int32 := sOut X k (nP X)
def cd_addOrder (B : mB) (s k w g : Int32) : Int32 := if vLies s 0 3 = true ∧ vLies k 0 2 = true then (if vLies w 1 500 = true ∧ vLies g 0 1000 = true then (if B 22 0 = 8 then 3 else 0) else 2) else 1
def up_addOrder (X : mB) (s k w g : Int32) : mB := z2 (z2 (z2 (z2 (z2 X 23 (nO X) s) 24 (nO X) k) 25 (nO X) w) 26 (nO X) g) 22 0 (X 22 0 + 1)
def an_addOrder (X : mB) : Int32 := X 22 0 + 1 - 1
def cd_assign (B : mB) (its o : Int32) : Int32 := if vP B its = true ∧ vO B o = true then (if B 2 (ix its) = 0 then (if B 11 (ix its) = -1 then (if (B 5 (ix its) >>> (B 23 (ix o) &&& 31)) &&& 1 = 1 then (if 0 < B 25 (ix o) then (if sOut B (B 24 (ix o)) (nP B) < B 21 (kx B (ix o)) then 0 else 2) else 2) else 2) else 2) else 2) else 1
def up_assign (X : mB) (its o : Int32) : mB := z2 X 11 (ix its) o
def an_assign (X : mB) (its o : Int32) : Int32 := sOn (up_assign X its o) o (nP X)
def cd_takeOff (B : mB) (its : Int32) : Int32 := if vP B its = true then (if B 11 (ix its) = -1 then 2 else 0) else 1
def up_takeOff (X : mB) (its : Int32) : mB := z2 X 11 (ix its) (-1)
def cd_O (B : mB) (o : Int32) : Int32 := if vO B o = true then 0 else 1
def cd_account (B : mB) (its a : Int32) : Int32 := if vP B its = true ∧ vLies a 0 3 = true then 0 else 1
def an_account (X : mB) (its a : Int32) : Int32 := X 14 (4 * ix its + ix a)
def cd_buy (B : mB) (its a : Int32) : Int32 := if vP B its = true then (if vLies a 1 1000 = true then (if B 2 (ix its) = 0 then (if a ≤ B 14 (4 * ix its + 3) then (if a ≤ sRest B (ix its) then 0 else 3) else 3) else 3) else 2) else 1
def up_buy (X : mB) (its a : Int32) : mB := z2 (z2 (z2 X 16 (ix its) (sBought X (ix its) + a)) 15 (ix its) (X 0 0 / 7)) 14 (4 * ix its + 3) (X 14 (4 * ix its + 3) - a)
def an_buy (X : mB) (its a : Int32) : Int32 := X 14 (4 * ix its + 3) - a
def an_limit (X : mB) (its : Int32) : Int32 := sRest X (ix its)
def cd_pass (_ : mB) (d : Int32) : Int32 := if vLies d 1 100 = true then 0 else 1
def up_pass (X : mB) (d : Int32) : mB := sDays X (ix d)
def an_pass (X : mB) (d : Int32) : Int32 := sDaysN X (ix d)
theorem mInv_lt {B : mB} (h : mInv B) (c : ¬ B 1 0 = 10) : nP B < 10 := by
  rcases Nat.lt_or_ge (nP B) 10 with q | q
  · exact q
  · have e : nP B = 10 := Nat.le_antisymm h.1.1 q
    exact absurd (by rw [h.1.2, e]; rfl) c
theorem mInv_ltO {B : mB} (h : mInv B) (c : ¬ B 22 0 = 8) : nO B < 8 := by
  rcases Nat.lt_or_ge (nO B) 8 with q | q
  · exact q
  · have e : nO B = 8 := Nat.le_antisymm h.2.1.1 q
    exact absurd (by rw [h.2.1.2, e]; rfl) c
theorem mInv_oc {B : mB} (h : mInv B) {i : Nat} (hi : i < nP B) (c : ¬ B 9 i = 50) : oc B i < 50 := by
  obtain ⟨q1, q2, q3, q4, q5⟩ := h.2.2.1 i hi
  rcases Nat.lt_or_ge (pp B i) 50 with q | q
  · omega
  · have e : pp B i = 50 := Nat.le_antisymm q4 q
    exact absurd (by rw [q2, e]; rfl) c
theorem mInv_ox {B : mB} (h : mInv B) {i : Nat} (hi : i < nP B) : B 11 i = -1 ∨ (B 11 i = nI (ox B i) ∧ ox B i < 8) := by
  obtain ⟨q1, q2, q3, q4, q5⟩ := h.2.2.1 i hi
  have := h.2.1.1
  rcases q5 with q | ⟨q, q'⟩
  · exact Or.inl q
  · exact Or.inr ⟨q, by omega⟩
theorem mInv_oc50 {B : mB} (h : mInv B) {i : Nat} (hi : i < nP B) : B 10 i = nI (oc B i) ∧ oc B i ≤ 50 := by
  obtain ⟨q1, q2, q3, q4, q5⟩ := h.2.2.1 i hi
  exact ⟨q1, by omega⟩
theorem mInv_kx {B : mB} (h : mInv B) {j : Nat} (hj : j < nO B) : B 24 j = nI (kx B j) ∧ kx B j < 3 := ⟨(h.2.2.2 j hj).1, (h.2.2.2 j hj).2.1⟩
theorem mInv_P10 {B : mB} (h : mInv B) {i : Nat} (hi : i < nP B) : i < 10 := Nat.lt_of_lt_of_le hi h.1.1
theorem vDays_split (d : Int32) : (∃ q, d = nI q ∧ q ≤ 100 ∧ vLies (nI q) 1 100 = true ∧ ix (nI q) = q) ∨ vLies d 1 100 = false := by
  by_cases c : vLies d 1 100 = true
  · have c0 := c
    unfold vLies at c
    simp only [Bool.and_eq_true, decide_eq_true_eq, Int32.lt_iff_toInt_lt] at c
    have h1 : (1 : Int32).toInt = 1 := rfl
    have h100 : (100 : Int32).toInt = 100 := rfl
    rw [h1, h100] at c
    obtain ⟨j, hj, rfl⟩ := nI_of (x := d) (by rw [Int32.lt_iff_toInt_lt, Int32.toInt_zero]; omega)
    rw [nI_toInt hj] at c
    exact Or.inl ⟨j, rfl, by omega, c0, ix_nI hj⟩
  · exact Or.inr (by simpa using c)
theorem vLies_01 {v a b : Int32} : vLies v a b = true ∨ vLies v a b = false := by cases vLies v a b <;> simp
theorem z27_0 (B : mB) (v : Int32) (j : Nat) : z2 B 27 0 v 0 j = B 0 j := rfl
theorem z27_1 (B : mB) (v : Int32) (j : Nat) : z2 B 27 0 v 1 j = B 1 j := rfl
theorem z27_2 (B : mB) (v : Int32) (j : Nat) : z2 B 27 0 v 2 j = B 2 j := rfl
theorem z27_3 (B : mB) (v : Int32) (j : Nat) : z2 B 27 0 v 3 j = B 3 j := rfl
theorem z27_4 (B : mB) (v : Int32) (j : Nat) : z2 B 27 0 v 4 j = B 4 j := rfl
theorem z27_5 (B : mB) (v : Int32) (j : Nat) : z2 B 27 0 v 5 j = B 5 j := rfl
theorem z27_6 (B : mB) (v : Int32) (j : Nat) : z2 B 27 0 v 6 j = B 6 j := rfl
theorem z27_7 (B : mB) (v : Int32) (j : Nat) : z2 B 27 0 v 7 j = B 7 j := rfl
theorem z27_8 (B : mB) (v : Int32) (j : Nat) : z2 B 27 0 v 8 j = B 8 j := rfl
theorem z27_9 (B : mB) (v : Int32) (j : Nat) : z2 B 27 0 v 9 j = B 9 j := rfl
theorem z27_10 (B : mB) (v : Int32) (j : Nat) : z2 B 27 0 v 10 j = B 10 j := rfl
theorem z27_11 (B : mB) (v : Int32) (j : Nat) : z2 B 27 0 v 11 j = B 11 j := rfl
theorem z27_12 (B : mB) (v : Int32) (j : Nat) : z2 B 27 0 v 12 j = B 12 j := rfl
theorem z27_13 (B : mB) (v : Int32) (j : Nat) : z2 B 27 0 v 13 j = B 13 j := rfl
theorem z27_14 (B : mB) (v : Int32) (j : Nat) : z2 B 27 0 v 14 j = B 14 j := rfl
theorem z27_15 (B : mB) (v : Int32) (j : Nat) : z2 B 27 0 v 15 j = B 15 j := rfl
theorem z27_16 (B : mB) (v : Int32) (j : Nat) : z2 B 27 0 v 16 j = B 16 j := rfl
theorem z27_17 (B : mB) (v : Int32) (j : Nat) : z2 B 27 0 v 17 j = B 17 j := rfl
theorem z27_18 (B : mB) (v : Int32) (j : Nat) : z2 B 27 0 v 18 j = B 18 j := rfl
theorem z27_19 (B : mB) (v : Int32) (j : Nat) : z2 B 27 0 v 19 j = B 19 j := rfl
theorem z27_20 (B : mB) (v : Int32) (j : Nat) : z2 B 27 0 v 20 j = B 20 j := rfl
theorem z27_21 (B : mB) (v : Int32) (j : Nat) : z2 B 27 0 v 21 j = B 21 j := rfl
theorem z27_22 (B : mB) (v : Int32) (j : Nat) : z2 B 27 0 v 22 j = B 22 j := rfl
theorem z27_23 (B : mB) (v : Int32) (j : Nat) : z2 B 27 0 v 23 j = B 23 j := rfl
theorem z27_24 (B : mB) (v : Int32) (j : Nat) : z2 B 27 0 v 24 j = B 24 j := rfl
theorem z27_25 (B : mB) (v : Int32) (j : Nat) : z2 B 27 0 v 25 j = B 25 j := rfl
theorem z27_26 (B : mB) (v : Int32) (j : Nat) : z2 B 27 0 v 26 j = B 26 j := rfl
theorem z27_oc (B : mB) (v : Int32) (i : Nat) : oc (z2 B 27 0 v) i = oc B i := rfl
theorem z27_ox (B : mB) (v : Int32) (i : Nat) : ox (z2 B 27 0 v) i = ox B i := rfl
theorem z27_kx (B : mB) (v : Int32) (i : Nat) : kx (z2 B 27 0 v) i = kx B i := rfl
theorem z27_nP (B : mB) (v : Int32) : nP (z2 B 27 0 v) = nP B := rfl
theorem z27_nO (B : mB) (v : Int32) : nO (z2 B 27 0 v) = nO B := rfl
theorem z2_6_5 (f : mB) (a : Nat) (v : Int32) (j : Nat) : z2 f 5 a v 6 j = f 6 j := rfl
theorem z2_6_8 (f : mB) (a : Nat) (v : Int32) (j : Nat) : z2 f 8 a v 6 j = f 6 j := rfl
theorem z2_6_9 (f : mB) (a : Nat) (v : Int32) (j : Nat) : z2 f 9 a v 6 j = f 6 j := rfl
theorem z2_6_20 (f : mB) (a : Nat) (v : Int32) (j : Nat) : z2 f 20 a v 6 j = f 6 j := rfl
