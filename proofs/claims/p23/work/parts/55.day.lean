/-! A DAY -/
def wq (g b : Nat) : Nat := if b = 0 then 3 * g / 10 else if b = 1 then g / 5 else if b = 2 then 3 * g / 10 else g - g / 5 - 2 * (3 * g / 10)
theorem wq_le {g b : Nat} (hg : g < 130) : wq g b ≤ 129 := by
  unfold wq
  repeat' split
  all_goals omega
theorem w30 {g : Nat} (hg : g < 130) : (nI g * 30 / 100 : Int32) = nI (3 * g / 10) := by
  rw [show (30 : Int32) = nI 30 from rfl, pk_mul, show (100 : Int32) = nI 100 from rfl, pk_div (by omega) (by omega) (by omega)]
  exact congrArg nI (by omega)
theorem w20 {g : Nat} (hg : g < 130) : (nI g * 20 / 100 : Int32) = nI (g / 5) := by
  rw [show (20 : Int32) = nI 20 from rfl, pk_mul, show (100 : Int32) = nI 100 from rfl, pk_div (by omega) (by omega) (by omega)]
  exact congrArg nI (by omega)
theorem w_rest {g : Nat} (hg : g < 130) : (nI g - nI (3 * g / 10) - nI (g / 5) - nI (3 * g / 10) : Int32) = nI (g - g / 5 - 2 * (3 * g / 10)) := by
  rw [pk_sub (by omega), pk_sub (by omega), pk_sub (by omega)]
  exact congrArg nI (by omega)
/-- the law's own way to the rest -/
theorem w_rest2 {g : Nat} (hg : g < 130) : ((nI g - nI (g / 5)) - nI (2 * ((3 * g) / 10)) : Int32) = nI (g - g / 5 - 2 * (3 * g / 10)) := by
  rw [pk_sub (by omega), pk_sub (by omega)]
theorem work_acc {X : mB} {k g : Nat} (hon : ¬ X 11 k = -1) (hz : ¬ X 25 (ox X k) = 0) (hg : g < 130) (hw : X 26 (ox X k) = nI g) (b : Nat) (hb : b < 4) : sWork X k 14 (4 * k + b) = X 14 (4 * k + b) + nI (wq g b) := by
  unfold sWork
  rw [if_neg (fun z => z.elim hon hz), hw, w30 hg, w20 hg, w_rest hg]
  rcases (show b = 0 ∨ b = 1 ∨ b = 2 ∨ b = 3 by omega) with rfl | rfl | rfl | rfl <;> simp [z2_ap, wq]
theorem work_ne {X : mB} {k i b : Nat} (hi : i ≠ k) (hb : b < 4) : sWork X k 14 (4 * i + b) = X 14 (4 * i + b) := by
  unfold sWork
  split
  · rfl
  · (try simp only [z2_ap, Nat.reduceEqDiff, true_and, false_and, if_false, ↓reduceIte]) <;> (repeat' split) <;> first | (exfalso; omega) | assumption | rfl | grind
theorem works_ne {X : mB} {i b : Nat} (hb : b < 4) : ∀ k, k ≤ i → sWorks X k 14 (4 * i + b) = X 14 (4 * i + b)
  | 0, _ => rfl
  | k + 1, h => (work_ne (by omega) hb).trans (works_ne hb k (by omega))
theorem work_f {X : mB} {i : Nat} (f : Nat) (h1 : f ≠ 25) (h2 : f ≠ 7) (h3 : f ≠ 14) : sWork X i f = X f := by
  unfold sWork
  split
  · rfl
  · rw [z2_ne1 _ _ _ h3, z2_ne1 _ _ _ h3, z2_ne1 _ _ _ h3, z2_ne1 _ _ _ h3, z2_ne1 _ _ _ h2, z2_ne1 _ _ _ h1]
theorem works_f {X : mB} (f : Nat) (h1 : f ≠ 25) (h2 : f ≠ 7) (h3 : f ≠ 14) : ∀ k, sWorks X k f = X f
  | 0 => rfl
  | k + 1 => (work_f f h1 h2 h3).trans (works_f f h1 h2 h3 k)
theorem leaves_f {X : mB} (f : Nat) (h1 : f ≠ 11) : ∀ k, sLeaves X k f = X f
  | 0 => rfl
  | k + 1 => (z2_ne1 _ _ _ h1).trans (leaves_f f h1 k)
theorem go_f {X : mB} {i : Nat} (f : Nat) (h1 : f ≠ 2) (h2 : f ≠ 12) (h3 : f ≠ 11) (h4 : f ≠ 13) (h5 : f ≠ 14) : sGo X i f = X f := by
  unfold sGo
  split
  · split
    · rw [z2_ne1 _ _ _ h5, z2_ne1 _ _ _ h5, z2_ne1 _ _ _ h4, z2_ne1 _ _ _ h3, z2_ne1 _ _ _ h2, z2_ne1 _ _ _ h1]
    · rfl
  · rfl
theorem goes_f {X : mB} (f : Nat) (h1 : f ≠ 2) (h2 : f ≠ 12) (h3 : f ≠ 11) (h4 : f ≠ 13) (h5 : f ≠ 14) : ∀ k, sGoes X k f = X f
  | 0 => rfl
  | k + 1 => (go_f f h1 h2 h3 h4 h5).trans (goes_f f h1 h2 h3 h4 h5 k)
theorem go_ne13 {X : mB} {k i : Nat} (hi : i ≠ k) : sGo X k 13 i = X 13 i := by
  unfold sGo
  split
  · split
    · (try simp only [z2_ap, Nat.reduceEqDiff, true_and, false_and, if_false, ↓reduceIte]) <;> (repeat' split) <;> first | (exfalso; omega) | assumption | rfl | grind
    · rfl
  · rfl
theorem go_ne14 {X : mB} {k i b : Nat} (hi : i ≠ k) (hb : b < 4) : sGo X k 14 (4 * i + b) = X 14 (4 * i + b) := by
  unfold sGo
  split
  · split
    · (try simp only [z2_ap, Nat.reduceEqDiff, true_and, false_and, if_false, ↓reduceIte]) <;> (repeat' split) <;> first | (exfalso; omega) | assumption | rfl | grind
    · rfl
  · rfl
theorem goes_13 {X : mB} {i : Nat} : ∀ k, k ≤ i → sGoes X k 13 i = X 13 i
  | 0, _ => rfl
  | k + 1, h => (go_ne13 (by omega)).trans (goes_13 k (by omega))
theorem morn_13 {B : mB} : sMorn B 13 = B 13 := (leaves_f 13 (by decide) _).trans (works_f 13 (by decide) (by decide) (by decide) _)
theorem go_yes {X : mB} {k : Nat} (h2 : X 2 k = 0) (hd : sRel X k ≤ X 0 0) : sGo X k 13 k = X 14 (4 * k + 2) + X 14 (4 * k + 3) ∧ sGo X k 14 (4 * k) = X 14 (4 * k) ∧ sGo X k 14 (4 * k + 1) = X 14 (4 * k + 1) ∧ sGo X k 14 (4 * k + 2) = 0 ∧ sGo X k 14 (4 * k + 3) = 0 ∧ sGoN X k = 1 := by
  unfold sGo sGoN
  rw [if_pos h2, if_pos hd, if_pos h2, if_pos hd]
  refine ⟨?_, ?_, ?_, ?_, ?_, rfl⟩ <;> (try simp only [z2_ap, Nat.reduceEqDiff, true_and, false_and, if_false, ↓reduceIte]) <;> (repeat' split) <;> first | (exfalso; omega) | assumption | rfl | grind
/-! bounds of the accounts -/
def jy (N : Nat) (X : mB) : Prop := ∀ i, i < nP X → (X 2 i = 0 → X 13 i = 0) ∧ (¬ X 2 i = 0 → X 14 (4 * i + 2) = 0 ∧ X 14 (4 * i + 3) = 0 ∧ X 11 i = -1) ∧ ∀ j, j < 4 → 0 ≤ (X 14 (4 * i + j)).toInt ∧ (X 14 (4 * i + j)).toInt ≤ 130 * (N : Int)
theorem jy_works {N : Nat} {X : mB} (hN : N ≤ 600) (h : jy N X) (hinv : mInv X) (hw : ∀ j, j < nO X → ∃ g, g < 130 ∧ X 26 j = nI g) : ∀ k, k ≤ nP X → ∀ i, i < nP X → (sWorks X k 2 i = 0 → sWorks X k 13 i = 0) ∧ (¬ sWorks X k 2 i = 0 → sWorks X k 14 (4 * i + 2) = 0 ∧ sWorks X k 14 (4 * i + 3) = 0 ∧ sWorks X k 11 i = -1) ∧ ∀ j, j < 4 → 0 ≤ (sWorks X k 14 (4 * i + j)).toInt ∧ (sWorks X k 14 (4 * i + j)).toInt ≤ 130 * (N : Int) + (if i < k then 130 else 0) := by
  intro k
  induction k with
  | zero =>
    intro _ i hi
    obtain ⟨a, b, c⟩ := h i hi
    refine ⟨a, b, fun j hj => ?_⟩
    have := c j hj
    rw [if_neg (Nat.not_lt_zero i)]
    exact ⟨this.1, by show (X 14 (4 * i + j)).toInt ≤ _; omega⟩
  | succ k ih =>
    intro hk i hi
    obtain ⟨a, b, c⟩ := ih (by omega) i hi
    have f2 : sWorks X (k + 1) 2 = sWorks X k 2 := work_f 2 (by decide) (by decide) (by decide)
    have f13 : sWorks X (k + 1) 13 = sWorks X k 13 := work_f 13 (by decide) (by decide) (by decide)
    have f11 : sWorks X (k + 1) 11 = sWorks X k 11 := work_f 11 (by decide) (by decide) (by decide)
    rw [f2, f13, f11]
    by_cases e : i = k
    · subst e
      by_cases z : sWorks X i 11 i = -1 ∨ sWorks X i 25 (ox (sWorks X i) i) = 0
      · have e14 : sWorks X (i + 1) = sWorks X i := if_pos z
        rw [e14]
        refine ⟨a, b, fun j hj => ?_⟩
        have := c j hj
        rw [if_neg (Nat.lt_irrefl i)] at this
        rw [if_pos (Nat.lt_succ_self i)]
        omega
      · have z1 : ¬ sWorks X i 11 i = -1 := fun q => z (Or.inl q)
        have z2' : ¬ sWorks X i 25 (ox (sWorks X i) i) = 0 := fun q => z (Or.inr q)
        obtain ⟨i1, n1, n2⟩ := mInv_same hinv (sWorks_same X i)
        have hj := ((i1.2.2.1 i (by rw [n1]; exact hi)).2.2.2.2.resolve_left z1).2
        rw [n2] at hj
        obtain ⟨g, hg, hw1⟩ := hw _ hj
        have hw2 : sWorks X i 26 (ox (sWorks X i) i) = nI g := by rw [works_f 26 (by decide) (by decide) (by decide)]; exact hw1
        refine ⟨a, fun q => absurd (b q).2.2 z1, fun j hj4 => ?_⟩
        have := c j hj4
        rw [if_neg (Nat.lt_irrefl i)] at this
        have hq := wq_le (b := j) hg
        have nq : (nI (wq g j)).toInt = (wq g j : Int) := nI_toInt (by omega)
        rw [if_pos (Nat.lt_succ_self i)]
        show 0 ≤ (sWork (sWorks X i) i 14 (4 * i + j)).toInt ∧ (sWork (sWorks X i) i 14 (4 * i + j)).toInt ≤ _
        rw [work_acc z1 z2' hg hw2 j hj4, i32_add_toInt (by omega) (by omega), nq]
        omega
    · have e14 : ∀ j, j < 4 → sWorks X (k + 1) 14 (4 * i + j) = sWorks X k 14 (4 * i + j) := fun j hj => work_ne e hj
      rw [e14 2 (by decide), e14 3 (by decide)]
      refine ⟨a, b, fun j hj => ?_⟩
      have := c j hj
      rw [e14 j hj]
      by_cases q : i < k
      · rw [if_pos q] at this; rw [if_pos (by omega)]; exact this
      · rw [if_neg q] at this; rw [if_neg (by omega)]; exact this
theorem jy_leave {N : Nat} {X : mB} {k : Nat} (h : jy N X) : jy N (sLeave X k) := by
  intro i hi
  obtain ⟨a, b, c⟩ := h i hi
  refine ⟨a, fun q => ⟨(b q).1, (b q).2.1, ?_⟩, c⟩
  have b3 := (b q).2.2
  unfold sLeave
  rw [z2_at]
  split
  · rename_i e
    subst e
    rw [if_pos b3]
  · exact b3
theorem jy_leaves {N : Nat} {X : mB} (h : jy N X) : ∀ k, jy N (sLeaves X k)
  | 0 => h
  | k + 1 => jy_leave (jy_leaves h k)
theorem jy_go {N : Nat} {X : mB} {k : Nat} (h : jy N X) : jy N (sGo X k) := by
  unfold sGo
  split
  · rename_i h2
    split
    · intro i hi
      obtain ⟨a, b, c⟩ := h i hi
      by_cases e : i = k
      · subst e
        refine ⟨fun q => ?_, fun _ => ⟨?_, ?_, ?_⟩, fun j hj => ?_⟩
        · exfalso
          have e1 : z2 (z2 (z2 (z2 (z2 (z2 X 2 i 1) 12 i (X 0 0)) 11 i (-1)) 13 i (X 14 (4 * i + 2) + X 14 (4 * i + 3))) 14 (4 * i + 2) 0) 14 (4 * i + 3) 0 2 i = 1 := if_pos rfl
          rw [e1] at q
          exact absurd q (by decide)
        · (try simp only [z2_ap, Nat.reduceEqDiff, true_and, false_and, if_false, ↓reduceIte]) <;> (repeat' split) <;> first | (exfalso; omega) | assumption | rfl | grind
        · (try simp only [z2_ap, Nat.reduceEqDiff, true_and, false_and, if_false, ↓reduceIte]) <;> (repeat' split) <;> first | (exfalso; omega) | assumption | rfl | grind
        · (try simp only [z2_ap, Nat.reduceEqDiff, true_and, false_and, if_false, ↓reduceIte]) <;> (repeat' split) <;> first | (exfalso; omega) | assumption | rfl | grind
        · rcases (show j = 0 ∨ j = 1 ∨ j = 2 ∨ j = 3 by omega) with rfl | rfl | rfl | rfl
          · have e0 : z2 (z2 (z2 (z2 (z2 (z2 X 2 i 1) 12 i (X 0 0)) 11 i (-1)) 13 i (X 14 (4 * i + 2) + X 14 (4 * i + 3))) 14 (4 * i + 2) 0) 14 (4 * i + 3) 0 14 (4 * i + 0) = X 14 (4 * i + 0) := by
              (try simp only [z2_ap, Nat.reduceEqDiff, true_and, false_and, if_false, ↓reduceIte]) <;> (repeat' split) <;> first | (exfalso; omega) | assumption | rfl | grind
            rw [e0]; exact c 0 (by decide)
          · have e0 : z2 (z2 (z2 (z2 (z2 (z2 X 2 i 1) 12 i (X 0 0)) 11 i (-1)) 13 i (X 14 (4 * i + 2) + X 14 (4 * i + 3))) 14 (4 * i + 2) 0) 14 (4 * i + 3) 0 14 (4 * i + 1) = X 14 (4 * i + 1) := by
              (try simp only [z2_ap, Nat.reduceEqDiff, true_and, false_and, if_false, ↓reduceIte]) <;> (repeat' split) <;> first | (exfalso; omega) | assumption | rfl | grind
            rw [e0]; exact c 1 (by decide)
          · have e0 : z2 (z2 (z2 (z2 (z2 (z2 X 2 i 1) 12 i (X 0 0)) 11 i (-1)) 13 i (X 14 (4 * i + 2) + X 14 (4 * i + 3))) 14 (4 * i + 2) 0) 14 (4 * i + 3) 0 14 (4 * i + 2) = 0 := by
              (try simp only [z2_ap, Nat.reduceEqDiff, true_and, false_and, if_false, ↓reduceIte]) <;> (repeat' split) <;> first | (exfalso; omega) | assumption | rfl | grind
            rw [e0, show (0 : Int32).toInt = 0 from rfl]; omega
          · rw [z2_same, show (0 : Int32).toInt = 0 from rfl]; omega
      · have e2 : z2 (z2 (z2 (z2 (z2 (z2 X 2 k 1) 12 k (X 0 0)) 11 k (-1)) 13 k (X 14 (4 * k + 2) + X 14 (4 * k + 3))) 14 (4 * k + 2) 0) 14 (4 * k + 3) 0 2 i = X 2 i := by
          (try simp only [z2_ap, Nat.reduceEqDiff, true_and, false_and, if_false, ↓reduceIte]) <;> (repeat' split) <;> first | (exfalso; omega) | assumption | rfl | grind
        have e13 : z2 (z2 (z2 (z2 (z2 (z2 X 2 k 1) 12 k (X 0 0)) 11 k (-1)) 13 k (X 14 (4 * k + 2) + X 14 (4 * k + 3))) 14 (4 * k + 2) 0) 14 (4 * k + 3) 0 13 i = X 13 i := by
          (try simp only [z2_ap, Nat.reduceEqDiff, true_and, false_and, if_false, ↓reduceIte]) <;> (repeat' split) <;> first | (exfalso; omega) | assumption | rfl | grind
        have e11 : z2 (z2 (z2 (z2 (z2 (z2 X 2 k 1) 12 k (X 0 0)) 11 k (-1)) 13 k (X 14 (4 * k + 2) + X 14 (4 * k + 3))) 14 (4 * k + 2) 0) 14 (4 * k + 3) 0 11 i = X 11 i := by
          (try simp only [z2_ap, Nat.reduceEqDiff, true_and, false_and, if_false, ↓reduceIte]) <;> (repeat' split) <;> first | (exfalso; omega) | assumption | rfl | grind
        have e14 : ∀ j, j < 4 → z2 (z2 (z2 (z2 (z2 (z2 X 2 k 1) 12 k (X 0 0)) 11 k (-1)) 13 k (X 14 (4 * k + 2) + X 14 (4 * k + 3))) 14 (4 * k + 2) 0) 14 (4 * k + 3) 0 14 (4 * i + j) = X 14 (4 * i + j) := by
          intro j hj
          (try simp only [z2_ap, Nat.reduceEqDiff, true_and, false_and, if_false, ↓reduceIte]) <;> (repeat' split) <;> first | (exfalso; omega) | assumption | rfl | grind
        rw [e2, e13, e11, e14 2 (by decide), e14 3 (by decide)]
        refine ⟨a, b, fun j hj => ?_⟩
        rw [e14 j hj]; exact c j hj
    · exact h
  · exact h
theorem jy_goes {N : Nat} {X : mB} (h : jy N X) : ∀ k, jy N (sGoes X k)
  | 0 => h
  | k + 1 => jy_go (jy_goes h k)
theorem JX_day {N : Nat} {B : mB} (hN : N ≤ 600) (h : JX N B) (hinv : mInv B) (hw : ∀ j, j < nO B → ∃ g, g < 130 ∧ B 26 j = nI g) : JX (N + 1) (sDay B) := by
  obtain ⟨⟨d, hd, h0⟩, h⟩ := h
  have w := jy_works hN h hinv hw (nP B) (Nat.le_refl _)
  have n1 := (mInv_same hinv (sWorks_same B (nP B))).2.1
  have y : jy (N + 1) (sWorks B (nP B)) := by
    intro i hi
    rw [n1] at hi
    obtain ⟨a, b, c⟩ := w i hi
    refine ⟨a, b, fun j hj => ?_⟩
    have := c j hj
    rw [if_pos hi] at this
    refine ⟨this.1, ?_⟩
    have e : ((N + 1 : Nat) : Int) = (N : Int) + 1 := rfl
    rw [e]; omega
  have y2 : jy (N + 1) (sMorn B) := jy_leaves y (nP B)
  have y3 : jy (N + 1) (sDay B) := jy_goes y2 (nP B)
  refine ⟨⟨d + 1, by omega, ?_⟩, y3⟩
  show sGoes (sMorn B) (nP B) 0 0 = _
  rw [goes_f 0 (by decide) (by decide) (by decide) (by decide) (by decide)]
  show z2 (sLeaves (sWorks B (nP B)) (nP B)) 0 0 (sLeaves (sWorks B (nP B)) (nP B) 0 0 + 1) 0 0 = _
  rw [z2_same, leaves_f 0 (by decide), works_f 0 (by decide) (by decide) (by decide), h0, nI_1]
/-! the other calls -/
theorem JX_mono {N N' : Nat} {B : mB} (h : JX N B) (hN : N ≤ N') : JX N' B := by
  obtain ⟨⟨d, hd, h0⟩, h⟩ := h
  refine ⟨⟨d, by omega, h0⟩, fun i hi => ?_⟩
  obtain ⟨a, b, c⟩ := h i hi
  exact ⟨a, b, fun j hj => ⟨(c j hj).1, by have := (c j hj).2; omega⟩⟩
theorem JX_cg {N : Nat} {B Y : mB} (h : JX N B) (h0 : Y 0 = B 0) (h1 : Y 1 = B 1) (h2 : Y 2 = B 2) (h13 : Y 13 = B 13) (h14 : Y 14 = B 14) (h11 : ∀ i, Y 11 i = B 11 i ∨ Y 11 i = -1) : JX N Y := by
  have n : nP Y = nP B := by unfold nP; rw [h1]
  unfold JX
  rw [h0, h2, h13, h14, n]
  refine ⟨h.1, fun i hi => ?_⟩
  obtain ⟨a, b, c⟩ := h.2 i hi
  refine ⟨a, fun q => ⟨(b q).1, (b q).2.1, ?_⟩, c⟩
  rcases h11 i with e | e
  · rw [e]; exact (b q).2.2
  · exact e
theorem JX_course {N : Nat} {B : mB} {its sk days : Int32} (h : JX N B) : JX N (up_course B its sk days) := JX_cg h (by rfl) (by rfl) (by rfl) (by rfl) (by rfl) (fun _ => Or.inl rfl)
theorem JX_off {N : Nat} {B : mB} {its days : Int32} (h : JX N B) : JX N (up_offence B its days) := by
  refine JX_cg h (by rfl) (by rfl) (by rfl) (by rfl) (by rfl) (fun i => ?_)
  show va_up (B 11) (ix its) (-1) i = B 11 i ∨ va_up (B 11) (ix its) (-1) i = -1
  by_cases e : i = ix its
  · exact Or.inr (if_pos e)
  · exact Or.inl (if_neg e)
theorem JX_app {N : Nat} {B : mB} {its w : Int32} (h : JX N B) : JX N (up_appeal B its w) := by
  unfold up_appeal sRaise
  split
  · exact JX_cg h (by rfl) (by rfl) (by rfl) (by rfl) (by rfl) (fun _ => Or.inl rfl)
  · exact JX_cg h (by rfl) (by rfl) (by rfl) (by rfl) (by rfl) (fun _ => Or.inl rfl)
theorem JX_tool {N : Nat} {B : mB} {k n : Int32} (h : JX N B) : JX N (up_setTools B k n) := JX_cg h (by rfl) (by rfl) (by rfl) (by rfl) (by rfl) (fun _ => Or.inl rfl)
theorem JX_ord {N : Nat} {B : mB} {a k w g : Int32} (h : JX N B) : JX N (up_addOrder B a k w g) := JX_cg h (by rfl) (by rfl) (by rfl) (by rfl) (by rfl) (fun _ => Or.inl rfl)
theorem JX_takeOff {N : Nat} {B : mB} {its : Int32} (h : JX N B) : JX N (up_takeOff B its) := by
  refine JX_cg h (by rfl) (by rfl) (by rfl) (by rfl) (by rfl) (fun i => ?_)
  show va_up (B 11) (ix its) (-1) i = B 11 i ∨ va_up (B 11) (ix its) (-1) i = -1
  by_cases e : i = ix its
  · exact Or.inr (if_pos e)
  · exact Or.inl (if_neg e)
theorem JX_ass {N : Nat} {B : mB} {i : Nat} {o : Int32} (h : JX N B) (hix : ix (nI i) = i) (h2 : B 2 i = 0) : JX N (up_assign B (nI i) o) := by
  unfold up_assign
  rw [hix]
  refine ⟨h.1, fun k hk => ?_⟩
  obtain ⟨a, b, c⟩ := h.2 k hk
  refine ⟨a, fun q => ⟨(b q).1, (b q).2.1, ?_⟩, c⟩
  have e : k ≠ i := fun e => q (by rw [e]; exact h2)
  rw [z2_ne2 _ _ _ _ e]
  exact (b q).2.2
theorem JX_buy {N : Nat} {B : mB} {i a : Nat} (h : JX N B) (hix : ix (nI i) = i) (hi : i < nP B) (h2 : B 2 i = 0) (ha : a < 2000) (hr : nI a ≤ B 14 (4 * i + 3)) : JX N (up_buy B (nI i) (nI a)) := by
  have na : (nI a).toInt = (a : Int) := nI_toInt (by omega)
  rw [Int32.le_iff_toInt_le, na] at hr
  unfold up_buy
  rw [hix]
  refine ⟨h.1, fun k hk => ?_⟩
  obtain ⟨a9, b, c⟩ := h.2 k hk
  by_cases e : k = i
  · subst e
    refine ⟨a9, fun q => absurd h2 q, fun j hj => ?_⟩
    by_cases e3 : j = 3
    · subst e3
      have c3 := c 3 (by decide)
      have hup : (B 14 (4 * k + 3)).toInt < 2147483648 := Int32.toInt_lt _
      rw [z2_same, i32_sub_toInt (by omega) (by omega), na]
      omega
    · rw [z2_ne2 _ _ _ _ (by omega : 4 * k + j ≠ 4 * k + 3)]
      exact c j hj
  · have e14 : ∀ j, j < 4 → z2 (z2 (z2 B 16 i (sBought B i + nI a)) 15 i (B 0 0 / 7)) 14 (4 * i + 3) (B 14 (4 * i + 3) - nI a) 14 (4 * k + j) = B 14 (4 * k + j) := fun j hj => z2_ne2 _ _ _ _ (by omega : 4 * k + j ≠ 4 * i + 3)
    rw [e14 2 (by decide), e14 3 (by decide)]
    refine ⟨a9, b, fun j hj => ?_⟩
    rw [e14 j hj]; exact c j hj
theorem JX_admit {N : Nat} {B : mB} {d k9 : Int32} (h : JX N B) (hJ : mJ B) : JX N (up_admit B d k9) := by
  obtain ⟨m2, m7, m8, m9, m10, m12, m13, m15, m16, m14⟩ := hJ.2.2 (nP B) (Nat.le_refl _)
  have n1 := nP_add (d := d) (k9 := k9) hJ.1
  refine ⟨h.1, fun k hk => ?_⟩
  rw [n1] at hk
  show (B 2 k = 0 → B 13 k = 0) ∧ (¬ B 2 k = 0 → B 14 (4 * k + 2) = 0 ∧ B 14 (4 * k + 3) = 0 ∧ va_up (B 11) (nP B) (-1) k = -1) ∧ ∀ j, j < 4 → 0 ≤ (B 14 (4 * k + j)).toInt ∧ (B 14 (4 * k + j)).toInt ≤ 130 * (N : Int)
  by_cases e : k = nP B
  · subst e
    refine ⟨fun _ => m13, fun q => absurd m2 q, fun j hj => ?_⟩
    rw [m14 j hj, show (0 : Int32).toInt = 0 from rfl]; omega
  · obtain ⟨a, b, c⟩ := h.2 k (by omega)
    refine ⟨a, fun q => ⟨(b q).1, (b q).2.1, ?_⟩, c⟩
    exact (if_neg e).trans (b q).2.2
theorem JX_0 : JX 0 mB0 := ⟨⟨0, Nat.le_refl _, rfl⟩, fun i hi => absurd hi (Nat.not_lt_zero i)⟩
