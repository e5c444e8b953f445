/-! WHAT A CALL KEEPS, by what it throws -/
theorem ite_0 {p : Prop} [Decidable p] {a b : Int32} (h : (if p then a else b) = 0) (hb : ¬ b = 0) : p ∧ a = 0 := by
  by_cases c : p
  · rw [if_pos c] at h; exact ⟨c, h⟩
  · rw [if_neg c] at h; exact absurd h hb
theorem ite_1 {p : Prop} [Decidable p] {a b : Int32} (h : (if p then a else b) = 0) (ha : ¬ a = 0) : ¬ p ∧ b = 0 := by
  by_cases c : p
  · rw [if_pos c] at h; exact absurd h ha
  · rw [if_neg c] at h; exact ⟨c, h⟩
theorem vP_nI {B : mB} (h : mInv B) {its : Int32} (c : vP B its = true) : ∃ i, its = nI i ∧ i < nP B ∧ ix (nI i) = i := by
  rcases vP_split h its with ⟨i, e, hi, -, -, hix⟩ | c'
  · exact ⟨i, e, hi, hix⟩
  · rw [c] at c'; exact absurd c' (by decide)
theorem vO_nI {B : mB} (h : mInv B) {o : Int32} (c : vO B o = true) : ∃ j, o = nI j ∧ j < nO B ∧ ix (nI j) = j := by
  rcases vO_split h o with ⟨j, e, hj, -, -, hjx⟩ | c'
  · exact ⟨j, e, hj, hjx⟩
  · rw [c] at c'; exact absurd c' (by decide)
theorem JU_admit {B : mB} {d k : Int32} (h : mJ B) (hc : cd_admit B d k = 0) : mJ (up_admit B d k) := by
  unfold cd_admit at hc
  obtain ⟨-, hc⟩ := ite_0 hc (by decide)
  obtain ⟨c, -⟩ := ite_1 hc (by decide)
  exact J_admit h (mInv_lt h.1 c)
theorem JU_course {B : mB} {its sk days : Int32} (h : mJ B) (hc : cd_course B its sk days = 0) : mJ (up_course B its sk days) := by
  unfold cd_course at hc
  obtain ⟨c1, hc⟩ := ite_0 hc (by decide)
  obtain ⟨i, rfl, hi, hix⟩ := vP_nI h.1 c1.1
  obtain ⟨-, hc⟩ := ite_0 hc (by decide)
  obtain ⟨-, hc⟩ := ite_0 hc (by decide)
  obtain ⟨c, -⟩ := ite_1 hc (by decide)
  rw [hix] at c
  exact J_course h hi hix c
theorem JU_offence {B : mB} {its days : Int32} (h : mJ B) (hc : cd_offence B its days = 0) : mJ (up_offence B its days) := by
  unfold cd_offence at hc
  obtain ⟨c1, hc⟩ := ite_0 hc (by decide)
  obtain ⟨i, rfl, hi, hix⟩ := vP_nI h.1 c1
  obtain ⟨-, hc⟩ := ite_0 hc (by decide)
  obtain ⟨-, hc⟩ := ite_0 hc (by decide)
  obtain ⟨c, -⟩ := ite_1 hc (by decide)
  rw [hix] at c
  exact J_offence h hi hix c
theorem JU_appeal {B : mB} {its which : Int32} (h : mJ B) (hc : cd_appeal B its which = 0) : mJ (up_appeal B its which) := by
  unfold cd_appeal at hc
  obtain ⟨c1, hc⟩ := ite_0 hc (by decide)
  obtain ⟨i, rfl, hi, hix⟩ := vP_nI h.1 c1.1
  obtain ⟨h1, h2, h3⟩ := h
  unfold up_appeal sRaise
  rw [hix]
  split
  · exact ⟨h1, h2, h3⟩
  · exact ⟨h1, i2_6 (B := z2 B 20 _ 1) h2 (rg_up (h2.1 i hi).1), h3⟩
theorem JU_setTools {B : mB} {k n : Int32} (h : mJ B) (_ : cd_setTools B k n = 0) : mJ (up_setTools B k n) := J_setTools h
theorem JU_addOrder {B : mB} {s9 k9 w9 g9 : Int32} (h : mJ B) (hc : cd_addOrder B s9 k9 w9 g9 = 0) : mJ (up_addOrder B s9 k9 w9 g9) := by
  unfold cd_addOrder at hc
  obtain ⟨c1, hc⟩ := ite_0 hc (by decide)
  obtain ⟨c2, hc⟩ := ite_0 hc (by decide)
  obtain ⟨c, -⟩ := ite_1 hc (by decide)
  obtain ⟨i, hi, rfl⟩ := (vLies_nat (n := 4) (by decide)).mp c1.1
  obtain ⟨k, hk, rfl⟩ := (vLies_nat (n := 3) (by decide)).mp c1.2
  exact J_addOrder h hi hk c2.1 (mInv_ltO h.1 c)
theorem JU_assign {B : mB} {its o : Int32} (h : mJ B) (hc : cd_assign B its o = 0) : mJ (up_assign B its o) := by
  unfold cd_assign at hc
  obtain ⟨c1, hc⟩ := ite_0 hc (by decide)
  obtain ⟨i, rfl, hi, hix⟩ := vP_nI h.1 c1.1
  obtain ⟨j, rfl, hj, hjx⟩ := vO_nI h.1 c1.2
  exact J_assign h hj hix
theorem JU_takeOff {B : mB} {its : Int32} (h : mJ B) (hc : cd_takeOff B its = 0) : mJ (up_takeOff B its) := by
  unfold cd_takeOff at hc
  obtain ⟨c1, hc⟩ := ite_0 hc (by decide)
  obtain ⟨i, rfl, hi, hix⟩ := vP_nI h.1 c1
  exact J_takeOff h hix
theorem JU_buy {B : mB} {its a : Int32} (h : mJ B) (hc : cd_buy B its a = 0) : mJ (up_buy B its a) := by
  unfold cd_buy at hc
  obtain ⟨c1, hc⟩ := ite_0 hc (by decide)
  obtain ⟨i, rfl, hi, hix⟩ := vP_nI h.1 c1
  obtain ⟨c2, hc⟩ := ite_0 hc (by decide)
  obtain ⟨-, hc⟩ := ite_0 hc (by decide)
  obtain ⟨-, hc⟩ := ite_0 hc (by decide)
  obtain ⟨c3, -⟩ := ite_0 hc (by decide)
  rw [hix] at c3
  exact J_buy h hi hix c2 c3
theorem JU_pass {B : mB} {d : Int32} (h : mJ B) (_ : cd_pass B d = 0) : mJ (up_pass B d) := J_pass h
/-! THE LAW'S BOOKS A beside the class's state B -/
theorem z2_ap {α : Type} (f : Nat → Nat → α) (g a : Nat) (v : α) (h b : Nat) : z2 f g a v h b = if h = g ∧ b = a then v else f h b := by
  unfold z2 va_up
  by_cases c : h = g
  · subst c; by_cases d : b = a <;> simp [d]
  · simp [c]
def jG (B A : mB) : Prop := nP B ≤ 6 ∧ A 4 0 = B 0 0 ∧ A 4 1 = nI (nP B) ∧ A 4 2 = nI (nO B)
def jA (B A : mB) : Prop := ∀ i, i < nP B → A 0 (10 * i) = B 3 i ∧ A 0 (10 * i + 1) = B 4 i ∧ A 0 (10 * i + 2) = B 5 i ∧ A 0 (10 * i + 3) = B 11 i
def jB (B A : mB) : Prop := ∀ i, i < 6 → A 0 (10 * i + 4) = B 2 i ∧ A 0 (10 * i + 5) = B 12 i ∧ A 0 (10 * i + 6) = B 7 i ∧ A 0 (10 * i + 7) = B 8 i ∧ A 0 (10 * i + 8) = sLoss B i ∧ A 0 (10 * i + 9) = B 10 i ∧ A 2 (3 + i) + B 10 i = B 9 i
def jC (B A : mB) : Prop := ∀ i, i < 6 → oc B i ≤ 10 ∧ B 10 i = nI (oc B i) ∧ ∀ k, k < oc B i → (∃ d, d < 15 ∧ B 17 (50 * i + k) = nI d) ∧ (B 20 (50 * i + k) = 0 ∨ B 20 (50 * i + k) = 1) ∧ A 3 (10 * i + k) = B 17 (50 * i + k) + (if B 20 (50 * i + k) = 0 then 0 else 1000)
def jO (B A : mB) : Prop := ∀ j, j < nO B → A 1 (4 * j) = B 23 j ∧ A 1 (4 * j + 1) = B 24 j ∧ A 1 (4 * j + 2) = B 25 j ∧ A 1 (4 * j + 3) = B 26 j ∧ ∃ g, g < 130 ∧ B 26 j = nI g
def jT (B A : mB) : Prop := ∀ k, k < 3 → A 2 k = B 21 k ∧ ∃ t, t < 21 ∧ B 21 k = nI t
def JE (B A : mB) : Prop := jG B A ∧ jA B A ∧ jB B A ∧ jC B A ∧ jO B A ∧ jT B A
def JX (N : Nat) (B : mB) : Prop := (∃ d, d ≤ N ∧ B 0 0 = nI d) ∧ ∀ i, i < nP B → (B 2 i = 0 → B 13 i = 0) ∧ (¬ B 2 i = 0 → B 14 (4 * i + 2) = 0 ∧ B 14 (4 * i + 3) = 0 ∧ B 11 i = -1) ∧ ∀ j, j < 4 → 0 ≤ (B 14 (4 * i + j)).toInt ∧ (B 14 (4 * i + j)).toInt ≤ 130 * (N : Int)
theorem JE_row {B A A' : mB} (h : JE B A) (e : ∀ f, f < 5 → A' f = A f) : JE B A' := by
  unfold JE jG jA jB jC jO jT at h ⊢
  rw [e 0 (by decide), e 1 (by decide), e 2 (by decide), e 3 (by decide), e 4 (by decide)]
  exact h
theorem sLo_cg {X Y : mB} (h17 : X 17 = Y 17) (h20 : X 20 = Y 20) (b : Nat) : ∀ n, sLo X b n = sLo Y b n
  | 0 => rfl
  | n + 1 => by
    show sLo X b n + (if X 20 (b + n) = 0 then X 17 (b + n) else 0) = sLo Y b n + (if Y 20 (b + n) = 0 then Y 17 (b + n) else 0)
    rw [sLo_cg h17 h20 b n, h17, h20]
theorem sLoss_cg {X Y : mB} (h10 : X 10 = Y 10) (h17 : X 17 = Y 17) (h20 : X 20 = Y 20) (i : Nat) : sLoss X i = sLoss Y i := by
  unfold sLoss oc
  rw [h10]
  exact sLo_cg h17 h20 _ _
set_option maxHeartbeats 8000000 in
theorem JE_course {B A : mB} {i : Nat} {sk days : Int32} (h : JE B A) (hi : i < nP B) (hix : ix (nI i) = i) : JE (up_course B (nI i) sk days) (z2 (z2 (z2 A 0 (10 * i + 2) (B 5 i ||| (1 <<< (sk &&& 31)))) 2 (3 + i) (A 2 (3 + i) + 1)) 0 (10 * i + 7) (B 8 i + days)) := by
  obtain ⟨hG, hA, hB, hC, hO, hT⟩ := h
  unfold up_course sRaise
  rw [hix]
  refine ⟨hG, fun k hk => ?_, fun k hk => ?_, hC, hO, fun k hk => ?_⟩
  · have h6 : k < 6 := Nat.lt_of_lt_of_le hk hG.1
    obtain ⟨a1, a2, a3, a4⟩ := hA k hk
    by_cases e : k = i
    · subst e
      refine ⟨?_, ?_, ?_, ?_⟩ <;> (try simp only [z2_ap, Nat.reduceEqDiff, true_and, false_and, if_false, ↓reduceIte]) <;> (repeat' split) <;> first | (exfalso; omega) | assumption | rfl | grind
    · refine ⟨?_, ?_, ?_, ?_⟩ <;> (try simp only [z2_ap, Nat.reduceEqDiff, true_and, false_and, if_false, ↓reduceIte]) <;> (repeat' split) <;> first | (exfalso; omega) | assumption | rfl | grind
  · obtain ⟨b1, b2, b3, b4, b5, b6, b7⟩ := hB k hk
    rw [show sLoss (z2 (z2 (z2 (z2 B 5 i (B 5 i ||| (1 <<< (sk &&& 31)))) 8 i (B 8 i + days)) 9 i (B 9 i + 1)) 6 i (z2 (z2 (z2 B 5 i (B 5 i ||| (1 <<< (sk &&& 31)))) 8 i (B 8 i + days)) 9 i (B 9 i + 1) 6 i + (if z2 (z2 (z2 B 5 i (B 5 i ||| (1 <<< (sk &&& 31)))) 8 i (B 8 i + days)) 9 i (B 9 i + 1) 6 i < 2 then 1 else 0))) k = sLoss B k from sLoss_cg (by rfl) (by rfl) (by rfl) k]
    by_cases e : k = i
    · subst e
      refine ⟨?_, ?_, ?_, ?_, ?_, ?_, ?_⟩ <;> (try simp only [z2_ap, Nat.reduceEqDiff, true_and, false_and, if_false, ↓reduceIte]) <;> (repeat' split) <;> first | (exfalso; omega) | assumption | rfl | grind
    · refine ⟨?_, ?_, ?_, ?_, ?_, ?_, ?_⟩ <;> (try simp only [z2_ap, Nat.reduceEqDiff, true_and, false_and, if_false, ↓reduceIte]) <;> (repeat' split) <;> first | (exfalso; omega) | assumption | rfl | grind
  · obtain ⟨t1, t2⟩ := hT k hk
    refine ⟨?_, t2⟩
    show z2 (z2 (z2 A 0 (10 * i + 2) _) 2 (3 + i) _) 0 (10 * i + 7) _ 2 k = B 21 k
    (try simp only [z2_ap, Nat.reduceEqDiff, true_and, false_and, if_false, ↓reduceIte]) <;> (repeat' split) <;> first | (exfalso; omega) | assumption | rfl | grind
theorem sLoss_off {B Y : mB} {i : Nat} {d : Int32} (h10 : Y 10 = va_up (B 10) i (B 10 i + 1)) (h17 : Y 17 = va_up (B 17) (50 * i + oc B i) d) (h20 : Y 20 = va_up (B 20) (50 * i + oc B i) 0) (hc : ∀ k, k < 6 → oc B k ≤ 10 ∧ B 10 k = nI (oc B k)) (hi : i < 6) (h10i : oc B i < 10) (k : Nat) (hk : k < 6) : sLoss Y k = if k = i then sLoss B i + d else sLoss B k := by
  have hne : ∀ n, n < oc B k → 50 * k + n ≠ 50 * i + oc B i := fun n hn => by
    have := (hc k hk).1
    by_cases e : k = i
    · subst e; omega
    · omega
  have hlo : ∀ n, n ≤ oc B k → sLo Y (50 * k) n = sLo B (50 * k) n := by
    intro n
    induction n with
    | zero => intro _; rfl
    | succ n ih =>
      intro hn
      have e17 : Y 17 (50 * k + n) = B 17 (50 * k + n) := by rw [h17]; exact if_neg (hne n (by omega))
      have e20 : Y 20 (50 * k + n) = B 20 (50 * k + n) := by rw [h20]; exact if_neg (hne n (by omega))
      show sLo Y (50 * k) n + (if Y 20 (50 * k + n) = 0 then Y 17 (50 * k + n) else 0) = sLo B (50 * k) n + (if B 20 (50 * k + n) = 0 then B 17 (50 * k + n) else 0)
      rw [ih (by omega), e17, e20]
  by_cases e : k = i
  · subst e
    rw [if_pos rfl]
    have o1 : oc Y k = oc B k + 1 := by
      show ix (Y 10 k) = _
      have e10 : Y 10 k = B 10 k + 1 := by rw [h10]; exact if_pos rfl
      rw [e10, (hc k hk).2, nI_1, ix_nI (by omega)]
    show sLo Y (50 * k) (oc Y k) = _
    rw [o1]
    have e17 : Y 17 (50 * k + oc B k) = d := by rw [h17]; exact if_pos rfl
    have e20 : Y 20 (50 * k + oc B k) = 0 := by rw [h20]; exact if_pos rfl
    show sLo Y (50 * k) (oc B k) + (if Y 20 (50 * k + oc B k) = 0 then Y 17 (50 * k + oc B k) else 0) = _
    rw [hlo _ (Nat.le_refl _), e20, e17, if_pos rfl]
    rfl
  · rw [if_neg e]
    have o1 : oc Y k = oc B k := by
      show ix (Y 10 k) = _
      have e10 : Y 10 k = B 10 k := by rw [h10]; exact if_neg e
      rw [e10]; rfl
    show sLo Y (50 * k) (oc Y k) = _
    rw [o1]
    exact hlo _ (Nat.le_refl _)
set_option maxHeartbeats 8000000 in
theorem JE_offence {B A : mB} {i dd : Nat} (h : JE B A) (hi : i < nP B) (hix : ix (nI i) = i) (h10 : oc B i < 10) (hd : dd < 15) : JE (up_offence B (nI i) (nI dd)) (z2 (z2 (z2 (z2 A 3 (10 * i + oc B i) (nI dd)) 0 (10 * i + 8) (sLoss B i + nI dd)) 0 (10 * i + 3) (-1)) 0 (10 * i + 9) (nI (oc B i + 1))) := by
  obtain ⟨hG, hA, hB, hC, hO, hT⟩ := h
  have h6i : i < 6 := Nat.lt_of_lt_of_le hi hG.1
  have hL := fun k hk => sLoss_off (B := B) (Y := up_offence B (nI i) (nI dd)) (i := i) (d := nI dd) (by unfold up_offence; rw [hix]; rfl) (by unfold up_offence; rw [hix]; rfl) (by unfold up_offence; rw [hix]; rfl) (fun k hk => ⟨(hC k hk).1, (hC k hk).2.1⟩) h6i h10 k hk
  have hoc : ∀ k, k < 6 → oc (up_offence B (nI i) (nI dd)) k = if k = i then oc B i + 1 else oc B k := by
    intro k hk
    show ix (up_offence B (nI i) (nI dd) 10 k) = _
    unfold up_offence
    rw [hix]
    show ix (va_up (B 10) i (B 10 i + 1) k) = _
    simp only [va_up]
    by_cases e : k = i
    · rw [if_pos e, if_pos e, (hC i h6i).2.1, nI_1, ix_nI (by omega)]
    · rw [if_neg e, if_neg e]; rfl
  refine ⟨?_, fun k hk => ?_, fun k hk => ?_, fun k hk => ?_, ?_, ?_⟩
  · unfold up_offence; rw [hix]; exact hG
  · have hk' : k < nP B := by
      unfold up_offence at hk; rw [hix] at hk; exact hk
    have h6 : k < 6 := Nat.lt_of_lt_of_le hk' hG.1
    obtain ⟨a1, a2, a3, a4⟩ := hA k hk'
    unfold up_offence
    rw [hix]
    by_cases e : k = i
    · subst e
      refine ⟨?_, ?_, ?_, ?_⟩ <;> (try simp only [z2_ap, Nat.reduceEqDiff, true_and, false_and, if_false, ↓reduceIte]) <;> (repeat' split) <;> first | (exfalso; omega) | assumption | rfl | grind
    · refine ⟨?_, ?_, ?_, ?_⟩ <;> (try simp only [z2_ap, Nat.reduceEqDiff, true_and, false_and, if_false, ↓reduceIte]) <;> (repeat' split) <;> first | (exfalso; omega) | assumption | rfl | grind
  · obtain ⟨b1, b2, b3, b4, b5, b6, b7⟩ := hB k hk
    rw [hL k hk]
    have b10 := (hC i h6i).2.1
    unfold up_offence
    rw [hix]
    by_cases e : k = i
    · subst e
      rw [if_pos rfl]
      have e9 : nI (oc B k + 1) = B 10 k + 1 := by rw [b10, nI_1]
      rw [e9]
      have e7 : A 2 (3 + k) + (B 10 k + 1) = B 9 k + 1 := by rw [← b7]; grind
      refine ⟨?_, ?_, ?_, ?_, ?_, ?_, ?_⟩ <;> (try simp only [z2_ap, Nat.reduceEqDiff, true_and, false_and, if_false, ↓reduceIte]) <;> (repeat' split) <;> first | (exfalso; omega) | assumption | rfl | grind
    · rw [if_neg e]
      refine ⟨?_, ?_, ?_, ?_, ?_, ?_, ?_⟩ <;> (try simp only [z2_ap, Nat.reduceEqDiff, true_and, false_and, if_false, ↓reduceIte]) <;> (repeat' split) <;> first | (exfalso; omega) | assumption | rfl | grind
  · obtain ⟨q1, q2, q3⟩ := hC k hk
    rw [hoc k hk]
    by_cases e : k = i
    · subst e
      rw [if_pos rfl]
      refine ⟨by omega, ?_, fun n hn => ?_⟩
      · unfold up_offence
        rw [hix]
        show va_up (B 10) k (B 10 k + 1) k = _
        simp only [va_up, if_true]
        rw [q2, nI_1]
      · unfold up_offence
        rw [hix]
        by_cases en : n = oc B k
        · subst en
          refine ⟨⟨dd, hd, ?_⟩, Or.inl ?_, ?_⟩
          · (try simp only [z2_ap, Nat.reduceEqDiff, true_and, false_and, if_false, ↓reduceIte]) <;> (repeat' split) <;> first | (exfalso; omega) | assumption | rfl | grind
          · (try simp only [z2_ap, Nat.reduceEqDiff, true_and, false_and, if_false, ↓reduceIte]) <;> (repeat' split) <;> first | (exfalso; omega) | assumption | rfl | grind
          · have e0 : (nI dd : Int32) = nI dd + (if (0 : Int32) = 0 then 0 else 1000) := by rw [if_pos rfl]; exact (Int32.add_zero _).symm
            simp only [z2_ap, Nat.reduceEqDiff, true_and, false_and, if_false, ↓reduceIte]
            simp
        · obtain ⟨w1, w2, w3⟩ := q3 n (by omega)
          have n1 : ¬ 50 * k + n = 50 * k + oc B k := by omega
          have n2 : ¬ 10 * k + n = 10 * k + oc B k := by omega
          simp only [z2_ap, n1, n2, and_false, Nat.reduceEqDiff, true_and, false_and, if_false, ↓reduceIte]
          exact ⟨w1, w2, w3⟩
    · rw [if_neg e]
      have e10 : up_offence B (nI i) (nI dd) 10 k = B 10 k := by
        unfold up_offence; rw [hix]
        show va_up (B 10) i (B 10 i + 1) k = _
        simp only [va_up]; rw [if_neg e]
      rw [e10]
      refine ⟨q1, q2, fun n hn => ?_⟩
      obtain ⟨w1, w2, w3⟩ := q3 n hn
      unfold up_offence
      rw [hix]
      have n1 : ¬ 50 * k + n = 50 * i + oc B i := by omega
      have n2 : ¬ 10 * k + n = 10 * i + oc B i := by omega
      simp only [z2_ap, n1, n2, and_false, Nat.reduceEqDiff, true_and, false_and, if_false, ↓reduceIte]
      exact ⟨w1, w2, w3⟩
  · unfold up_offence; rw [hix]; exact hO
  · unfold up_offence; rw [hix]; exact hT
set_option maxHeartbeats 8000000 in
theorem JE_20 {B A : mB} {i n : Nat} (h : JE B A) (hi : i < nP B) (hn : n < oc B i) (hz : B 20 (50 * i + n) = 0) : JE (z2 B 20 (50 * i + n) 1) (z2 (z2 A 0 (10 * i + 8) (sLoss B i - A 3 (10 * i + n))) 3 (10 * i + n) (A 3 (10 * i + n) + 1000)) := by
  obtain ⟨hG, hA, hB, hC, hO, hT⟩ := h
  have h6i : i < 6 := Nat.lt_of_lt_of_le hi hG.1
  have hq : A 3 (10 * i + n) = B 17 (50 * i + n) := by
    have := ((hC i h6i).2.2 n hn).2.2
    rw [if_pos hz, Int32.add_zero] at this
    exact this
  have h10i := (hC i h6i).1
  refine ⟨hG, fun k hk => ?_, fun k hk => ?_, fun k hk => ?_, hO, hT⟩
  · have h6 : k < 6 := Nat.lt_of_lt_of_le hk hG.1
    obtain ⟨a1, a2, a3, a4⟩ := hA k hk
    refine ⟨?_, ?_, ?_, ?_⟩ <;> (try simp only [z2_ap, Nat.reduceEqDiff, true_and, false_and, if_false, ↓reduceIte]) <;> (repeat' split) <;> first | (exfalso; omega) | assumption | rfl | grind
  · obtain ⟨b1, b2, b3, b4, b5, b6, b7⟩ := hB k hk
    have hL : sLoss (z2 B 20 (50 * i + n) 1) k = if k = i then sLoss B i - A 3 (10 * i + n) else sLoss B k := by
      show sLo (z2 B 20 (50 * i + n) 1) (50 * k) (oc B k) = _
      by_cases e : k = i
      · subst e; rw [sLo_set hz, if_pos hn, if_pos rfl, hq]; rfl
      · have hk10 := (hC k hk).1
        rw [if_neg e, sLo_out _ (fun q hq9 => by omega)]; rfl
    rw [hL]
    by_cases e : k = i
    · subst e
      rw [if_pos rfl]
      refine ⟨?_, ?_, ?_, ?_, ?_, ?_, ?_⟩ <;> (try simp only [z2_ap, Nat.reduceEqDiff, true_and, false_and, if_false, ↓reduceIte]) <;> (repeat' split) <;> first | (exfalso; omega) | assumption | rfl | grind
    · rw [if_neg e]
      refine ⟨?_, ?_, ?_, ?_, ?_, ?_, ?_⟩ <;> (try simp only [z2_ap, Nat.reduceEqDiff, true_and, false_and, if_false, ↓reduceIte]) <;> (repeat' split) <;> first | (exfalso; omega) | assumption | rfl | grind
  · obtain ⟨q1, q2, q3⟩ := hC k hk
    refine ⟨q1, q2, fun n' hn' => ?_⟩
    have hn' : n' < oc B k := hn'
    obtain ⟨w1, w2, w3⟩ := q3 n' hn'
    by_cases e : k = i ∧ n' = n
    · obtain ⟨e1, e2⟩ := e
      subst e1; subst e2
      refine ⟨w1, Or.inr (z2_same _ _ _ _), ?_⟩
      rw [z2_same, z2_same, if_neg (show ¬ (1 : Int32) = 0 by decide), hq]; rfl
    · have n1 : ¬ 50 * k + n' = 50 * i + n := fun z => e ⟨by omega, by omega⟩
      have n2 : ¬ 10 * k + n' = 10 * i + n := fun z => e ⟨by omega, by omega⟩
      simp only [z2_ap, n1, n2, and_false, Nat.reduceEqDiff, true_and, false_and, if_false, ↓reduceIte]
      exact ⟨w1, w2, w3⟩
theorem JE_6 {B A : mB} {i : Nat} {v : Int32} (h : JE B A) : JE (z2 B 6 i v) A := by
  obtain ⟨hG, hA, hB, hC, hO, hT⟩ := h
  refine ⟨hG, hA, fun k hk => ?_, hC, hO, hT⟩
  rw [show sLoss (z2 B 6 i v) k = sLoss B k from sLoss_cg (by rfl) (by rfl) (by rfl) k]
  exact hB k hk
theorem JE_appeal {B A : mB} {i n : Nat} (h : JE B A) (hi : i < nP B) (hn : n < oc B i) (hz : B 20 (50 * i + n) = 0) (hix : ix (nI i) = i) (hnx : ix (nI n) = n) : JE (up_appeal B (nI i) (nI n)) (z2 (z2 A 0 (10 * i + 8) (sLoss B i - A 3 (10 * i + n))) 3 (10 * i + n) (A 3 (10 * i + n) + 1000)) := by
  have h1 := JE_20 h hi hn hz
  unfold up_appeal sRaise
  rw [hix, hnx]
  split
  · exact h1
  · exact JE_6 h1
theorem JE_setTools {B A : mB} {k t : Nat} (h : JE B A) (hk : k < 3) (ht : t < 21) (hkx : ix (nI k) = k) : JE (up_setTools B (nI k) (nI t)) (z2 A 2 k (nI t)) := by
  obtain ⟨hG, hA, hB, hC, hO, hT⟩ := h
  unfold up_setTools
  rw [hkx]
  refine ⟨hG, hA, fun i hi => ?_, hC, hO, fun k' hk' => ?_⟩
  · obtain ⟨b1, b2, b3, b4, b5, b6, b7⟩ := hB i hi
    rw [show sLoss (z2 B 21 k (nI t)) i = sLoss B i from sLoss_cg (by rfl) (by rfl) (by rfl) i]
    refine ⟨b1, b2, b3, b4, b5, b6, ?_⟩
    show z2 A 2 k (nI t) 2 (3 + i) + B 10 i = B 9 i
    rw [z2_ne2 _ _ _ _ (by omega : 3 + i ≠ k)]; exact b7
  · obtain ⟨t1, t2⟩ := hT k' hk'
    by_cases e : k' = k
    · subst e; rw [z2_same, z2_same]; exact ⟨rfl, t, ht, rfl⟩
    · rw [z2_ne2 _ _ _ _ e, z2_ne2 _ _ _ _ e]; exact ⟨t1, t2⟩
theorem nO_add {B : mB} {s9 k9 w9 g9 : Int32} (hinv : mInv B) : nO (up_addOrder B s9 k9 w9 g9) = nO B + 1 := by
  have q2 := hinv.2.1
  show ix (z2 (z2 (z2 (z2 (z2 B 23 (nO B) s9) 24 (nO B) k9) 25 (nO B) w9) 26 (nO B) g9) 22 0 (B 22 0 + 1) 22 0) = _
  rw [z2_same, q2.2, nI_1, ix_nI (by omega)]
set_option maxHeartbeats 8000000 in
theorem JE_addOrder {B A : mB} {s9 k9 w9 g9 : Nat} (h : JE B A) (hinv : mInv B) (h8 : nO B < 8) (hg : g9 < 130) : JE (up_addOrder B (nI s9) (nI k9) (nI w9) (nI g9)) (z2 (z2 (z2 (z2 (z2 A 1 (4 * nO B) (nI s9)) 1 (4 * nO B + 1) (nI k9)) 1 (4 * nO B + 2) (nI w9)) 1 (4 * nO B + 3) (nI g9)) 4 2 (nI (nO B + 1))) := by
  obtain ⟨hG, hA, hB, hC, hO, hT⟩ := h
  have n1 := nO_add (s9 := nI s9) (k9 := nI k9) (w9 := nI w9) (g9 := nI g9) hinv
  refine ⟨⟨hG.1, hG.2.1, hG.2.2.1, ?_⟩, hA, fun i hi => ?_, hC, fun j hj => ?_, hT⟩
  · rw [n1, z2_same]
  · rw [show sLoss (up_addOrder B (nI s9) (nI k9) (nI w9) (nI g9)) i = sLoss B i from sLoss_cg (by rfl) (by rfl) (by rfl) i]
    exact hB i hi
  · rw [n1] at hj
    unfold up_addOrder
    by_cases e : j = nO B
    · subst e
      refine ⟨?_, ?_, ?_, ?_, g9, hg, ?_⟩ <;> (try simp only [z2_ap, Nat.reduceEqDiff, true_and, false_and, if_false, ↓reduceIte]) <;> (repeat' split) <;> first | (exfalso; omega) | assumption | rfl | grind
    · obtain ⟨o1, o2, o3, o4, g, hg', o5⟩ := hO j (by omega)
      refine ⟨?_, ?_, ?_, ?_, g, hg', ?_⟩ <;> (try simp only [z2_ap, Nat.reduceEqDiff, true_and, false_and, if_false, ↓reduceIte]) <;> (repeat' split) <;> first | (exfalso; omega) | assumption | rfl | grind
theorem JE_11 {B A : mB} {i : Nat} {v : Int32} (h : JE B A) (hi : i < nP B) : JE (z2 B 11 i v) (z2 A 0 (10 * i + 3) v) := by
  obtain ⟨hG, hA, hB, hC, hO, hT⟩ := h
  refine ⟨hG, fun k hk => ?_, fun k hk => ?_, hC, hO, hT⟩
  · obtain ⟨a1, a2, a3, a4⟩ := hA k hk
    simp only [z2_ap, Nat.reduceEqDiff, true_and, false_and, if_false, ↓reduceIte]
    by_cases e : k = i
    · subst e
      refine ⟨?_, ?_, ?_, ?_⟩ <;> (repeat' split) <;> first | (exfalso; omega) | assumption | rfl | grind
    · refine ⟨?_, ?_, ?_, ?_⟩ <;> (repeat' split) <;> first | (exfalso; omega) | assumption | rfl | grind
  · obtain ⟨b1, b2, b3, b4, b5, b6, b7⟩ := hB k hk
    rw [show sLoss (z2 B 11 i v) k = sLoss B k from sLoss_cg (by rfl) (by rfl) (by rfl) k]
    refine ⟨?_, ?_, ?_, ?_, ?_, ?_, ?_⟩ <;> (try simp only [z2_ap, Nat.reduceEqDiff, true_and, false_and, if_false, ↓reduceIte]) <;> (repeat' split) <;> first | (exfalso; omega) | assumption | rfl | grind
theorem JE_assign {B A : mB} {i j : Nat} (h : JE B A) (hi : i < nP B) (hix : ix (nI i) = i) : JE (up_assign B (nI i) (nI j)) (z2 A 0 (10 * i + 3) (nI j)) := by
  unfold up_assign; rw [hix]; exact JE_11 h hi
theorem JE_takeOff {B A : mB} {i : Nat} (h : JE B A) (hi : i < nP B) (hix : ix (nI i) = i) : JE (up_takeOff B (nI i)) (z2 A 0 (10 * i + 3) (-1)) := by
  unfold up_takeOff; rw [hix]; exact JE_11 h hi
theorem JE_buy {B A : mB} {its a : Int32} (h : JE B A) : JE (up_buy B its a) A := by
  obtain ⟨hG, hA, hB, hC, hO, hT⟩ := h
  refine ⟨hG, hA, fun k hk => ?_, hC, hO, hT⟩
  rw [show sLoss (up_buy B its a) k = sLoss B k from sLoss_cg (by rfl) (by rfl) (by rfl) k]
  exact hB k hk
theorem nP_add {B : mB} {d k9 : Int32} (hinv : mInv B) : nP (up_admit B d k9) = nP B + 1 := by
  have q1 := hinv.1
  show ix (z2 (z2 (z2 (z2 (z2 (z2 B 3 (nP B) (B 0 0)) 4 (nP B) d) 5 (nP B) k9) 6 (nP B) 1) 11 (nP B) (-1)) 1 0 (B 1 0 + 1) 1 0) = _
  rw [z2_same, q1.2, nI_1, ix_nI (by omega)]
set_option maxHeartbeats 8000000 in
theorem JE_admit {B A : mB} {d k9 : Int32} (h : JE B A) (hinv : mInv B) (h6 : nP B < 6) : JE (up_admit B d k9) (z2 (z2 (z2 (z2 (z2 A 0 (10 * nP B) (B 0 0)) 0 (10 * nP B + 1) d) 0 (10 * nP B + 2) k9) 0 (10 * nP B + 3) (-1)) 4 1 (nI (nP B + 1))) := by
  obtain ⟨hG, hA, hB, hC, hO, hT⟩ := h
  have n1 := nP_add (d := d) (k9 := k9) hinv
  refine ⟨⟨by rw [n1]; omega, hG.2.1, by rw [n1, z2_same], hG.2.2.2⟩, fun k hk => ?_, fun k hk => ?_, hC, hO, hT⟩
  · rw [n1] at hk
    unfold up_admit
    by_cases e : k = nP B
    · subst e
      refine ⟨?_, ?_, ?_, ?_⟩ <;> (try simp only [z2_ap, Nat.reduceEqDiff, true_and, false_and, if_false, ↓reduceIte]) <;> (repeat' split) <;> first | (exfalso; omega) | assumption | rfl | grind
    · obtain ⟨a1, a2, a3, a4⟩ := hA k (by omega)
      refine ⟨?_, ?_, ?_, ?_⟩ <;> (try simp only [z2_ap, Nat.reduceEqDiff, true_and, false_and, if_false, ↓reduceIte]) <;> (repeat' split) <;> first | (exfalso; omega) | assumption | rfl | grind
  · obtain ⟨b1, b2, b3, b4, b5, b6, b7⟩ := hB k hk
    rw [show sLoss (up_admit B d k9) k = sLoss B k from sLoss_cg (by rfl) (by rfl) (by rfl) k]
    unfold up_admit
    refine ⟨?_, ?_, ?_, ?_, ?_, ?_, ?_⟩ <;> (try simp only [z2_ap, Nat.reduceEqDiff, true_and, false_and, if_false, ↓reduceIte]) <;> (repeat' split) <;> first | (exfalso; omega) | assumption | rfl | grind
/-! a day -/
set_option maxHeartbeats 8000000 in
theorem JE_work {X A : mB} {k j : Nat} (h : JE X A) (hk : k < nP X) (hj : X 11 k = nI j) (hjO : j < nO X) (hjx : ox X k = j) (hz : ¬ X 25 j = 0) (h1 : ¬ X 11 k = -1) : JE (sWork X k) (z2 (z2 A 1 (4 * j + 2) (X 25 j - 1)) 0 (10 * k + 6) (X 7 k + 1)) := by
  obtain ⟨hG, hA, hB, hC, hO, hT⟩ := h
  unfold sWork
  rw [hjx, if_neg (fun z => z.elim h1 hz)]
  refine ⟨hG, fun i hi => ?_, fun i hi => ?_, hC, fun q hq => ?_, hT⟩
  · obtain ⟨a1, a2, a3, a4⟩ := hA i hi
    refine ⟨?_, ?_, ?_, ?_⟩ <;> (try simp only [z2_ap, Nat.reduceEqDiff, true_and, false_and, if_false, ↓reduceIte]) <;> (repeat' split) <;> first | (exfalso; omega) | assumption | rfl | grind
  · obtain ⟨b1, b2, b3, b4, b5, b6, b7⟩ := hB i hi
    rw [show sLoss (z2 (z2 (z2 (z2 (z2 (z2 X 25 j (X 25 j - 1)) 7 k (X 7 k + 1)) 14 (4 * k + 0) (X 14 (4 * k + 0) + X 26 j * 30 / 100)) 14 (4 * k + 1) (X 14 (4 * k + 1) + X 26 j * 20 / 100)) 14 (4 * k + 2) (X 14 (4 * k + 2) + X 26 j * 30 / 100)) 14 (4 * k + 3) (X 14 (4 * k + 3) + (X 26 j - X 26 j * 30 / 100 - X 26 j * 20 / 100 - X 26 j * 30 / 100))) i = sLoss X i from sLoss_cg (by rfl) (by rfl) (by rfl) i]
    by_cases e : i = k
    · subst e
      refine ⟨?_, ?_, ?_, ?_, ?_, ?_, ?_⟩ <;> (try simp only [z2_ap, Nat.reduceEqDiff, true_and, false_and, if_false, ↓reduceIte]) <;> (repeat' split) <;> first | (exfalso; omega) | assumption | rfl | grind
    · refine ⟨?_, ?_, ?_, ?_, ?_, ?_, ?_⟩ <;> (try simp only [z2_ap, Nat.reduceEqDiff, true_and, false_and, if_false, ↓reduceIte]) <;> (repeat' split) <;> first | (exfalso; omega) | assumption | rfl | grind
  · obtain ⟨o1, o2, o3, o4, g, hg, o5⟩ := hO q hq
    by_cases e : q = j
    · subst e
      refine ⟨?_, ?_, ?_, ?_, g, hg, ?_⟩ <;> (try simp only [z2_ap, Nat.reduceEqDiff, true_and, false_and, if_false, ↓reduceIte]) <;> (repeat' split) <;> first | (exfalso; omega) | assumption | rfl | grind
    · refine ⟨?_, ?_, ?_, ?_, g, hg, ?_⟩ <;> (try simp only [z2_ap, Nat.reduceEqDiff, true_and, false_and, if_false, ↓reduceIte]) <;> (repeat' split) <;> first | (exfalso; omega) | assumption | rfl | grind
theorem JE_leave {X A : mB} {k : Nat} {v : Int32} (h : JE X A) (hk : k < nP X) (hv : v = if X 11 k = -1 then -1 else if X 25 (ox X k) = 0 then -1 else X 11 k) : JE (sLeave X k) (z2 A 0 (10 * k + 3) v) := by
  subst hv; exact JE_11 h hk
theorem JE_tick {X A : mB} (h : JE X A) : JE (sTick X) (z2 A 4 0 (X 0 0 + 1)) := by
  obtain ⟨hG, hA, hB, hC, hO, hT⟩ := h
  unfold sTick
  refine ⟨⟨hG.1, ?_, hG.2.2⟩, hA, fun k hk => ?_, hC, hO, hT⟩
  · rw [z2_same, z2_same]
  · rw [show sLoss (z2 X 0 0 (X 0 0 + 1)) k = sLoss X k from sLoss_cg (by rfl) (by rfl) (by rfl) k]
    exact hB k hk
set_option maxHeartbeats 8000000 in
theorem JE_go {X A : mB} {k : Nat} (h : JE X A) (hk : k < nP X) (h2 : X 2 k = 0) (hd : sRel X k ≤ X 0 0) : JE (sGo X k) (z2 (z2 (z2 A 0 (10 * k + 4) 1) 0 (10 * k + 5) (X 0 0)) 0 (10 * k + 3) (-1)) := by
  obtain ⟨hG, hA, hB, hC, hO, hT⟩ := h
  unfold sGo
  rw [if_pos h2, if_pos hd]
  refine ⟨hG, fun i hi => ?_, fun i hi => ?_, hC, hO, hT⟩
  · obtain ⟨a1, a2, a3, a4⟩ := hA i hi
    by_cases e : i = k
    · subst e
      refine ⟨?_, ?_, ?_, ?_⟩ <;> (try simp only [z2_ap, Nat.reduceEqDiff, true_and, false_and, if_false, ↓reduceIte]) <;> (repeat' split) <;> first | (exfalso; omega) | assumption | rfl | grind
    · refine ⟨?_, ?_, ?_, ?_⟩ <;> (try simp only [z2_ap, Nat.reduceEqDiff, true_and, false_and, if_false, ↓reduceIte]) <;> (repeat' split) <;> first | (exfalso; omega) | assumption | rfl | grind
  · obtain ⟨b1, b2, b3, b4, b5, b6, b7⟩ := hB i hi
    rw [show sLoss (z2 (z2 (z2 (z2 (z2 (z2 X 2 k 1) 12 k (X 0 0)) 11 k (-1)) 13 k (X 14 (4 * k + 2) + X 14 (4 * k + 3))) 14 (4 * k + 2) 0) 14 (4 * k + 3) 0) i = sLoss X i from sLoss_cg (by rfl) (by rfl) (by rfl) i]
    by_cases e : i = k
    · subst e
      refine ⟨?_, ?_, ?_, ?_, ?_, ?_, ?_⟩ <;> (try simp only [z2_ap, Nat.reduceEqDiff, true_and, false_and, if_false, ↓reduceIte]) <;> (repeat' split) <;> first | (exfalso; omega) | assumption | rfl | grind
    · refine ⟨?_, ?_, ?_, ?_, ?_, ?_, ?_⟩ <;> (try simp only [z2_ap, Nat.reduceEqDiff, true_and, false_and, if_false, ↓reduceIte]) <;> (repeat' split) <;> first | (exfalso; omega) | assumption | rfl | grind
theorem JE_0 : JE mB0 (fun _ _ => 0) := by
  have z0 : ∀ i, ¬ i < nP mB0 := fun i => Nat.not_lt_zero i
  have z1 : ∀ i, ¬ i < nO mB0 := fun i => Nat.not_lt_zero i
  refine ⟨⟨Nat.zero_le _, rfl, rfl, rfl⟩, fun i hi => absurd hi (z0 i), fun i hi => ⟨rfl, rfl, rfl, rfl, rfl, rfl, rfl⟩, fun i hi => ⟨Nat.zero_le _, rfl, fun k hk => absurd hk (Nat.not_lt_zero k)⟩, fun j hj => absurd hj (z1 j), fun k hk => ⟨rfl, 0, by decide, rfl⟩⟩

