/-! WHAT THE ANSWERS ARE, from the books -/
theorem i32_add_toInt {a b : Int32} (h1 : -2147483648 ≤ a.toInt + b.toInt) (h2 : a.toInt + b.toInt < 2147483648) : (a + b).toInt = a.toInt + b.toInt := by
  rw [Int32.toInt_add]; exact Int.bmod_eq_of_le (by omega) (by omega)
theorem dF_rel {B A : mB} (h : JE B A) {i : Nat} (hi : i < nP B) (h2 : B 2 i = 0 ∨ B 2 i = 1) : dF (A 0) i = sRel B i := by
  obtain ⟨a1, a2, a3, a4⟩ := h.2.1 i hi
  obtain ⟨b1, b2, b3, b4, b5, b6, b7⟩ := h.2.2.1 i (Nat.lt_of_lt_of_le hi h.1.1)
  unfold dF sRel sGain
  rw [a1, a2, b1, b2, b3, b4, b5, sMin]
  rcases h2 with e | e
  · rw [e, if_neg (show ¬ (0 : Int32) = 1 by decide), if_pos rfl]
  · rw [e, if_pos rfl, if_neg (show ¬ (1 : Int32) = 0 by decide)]
theorem rg_in {B : mB} (h : mJ B) {i : Nat} (hi : i < nP B) : ¬ B 6 i < 0 ∧ ¬ 3 ≤ B 6 i := by
  rcases (h.2.1.1 i hi).1 with e | e | e <;> rw [e] <;> decide
theorem sMost_top {B : mB} {i : Nat} (h : B 6 i = 0 ∨ B 6 i = 1 ∨ B 6 i = 2) (n : Nat) (hn : n ≤ 50) : (sMost B i n).toInt ≤ (20 * B 6 i + 10).toInt := by
  induction n with
  | zero => exact Int.le_refl _
  | succ n ih =>
    have ih := ih (by omega)
    have r := sMost_rng h n (by omega)
    show (sMost B i n - (if B 20 (50 * i + n) = 0 ∧ B 0 0 - B 18 (50 * i + n) ≤ 29 then 5 else 0)).toInt ≤ _
    have h5 : (5 : Int32).toInt = 5 := rfl
    split
    · rw [i32_sub_toInt (by rw [h5]; omega) (by rw [h5]; omega), h5]; omega
    · rw [Int32.sub_zero]; exact ih
theorem top_rng {B : mB} (h : mJ B) {i : Nat} (hi : i < nP B) : 0 ≤ (sTop B i).toInt ∧ (sTop B i).toInt ≤ 50 ∧ (sTop B i).toInt ≤ (20 * B 6 i + 10).toInt := by
  have ho := (mInv_oc50 h.1 hi).2
  have g := (h.2.1.1 i hi).1
  have r := sMost_rng g (oc B i) ho
  have t := sMost_top g (oc B i) ho
  have h0 : (0 : Int32).toInt = 0 := rfl
  unfold sTop
  by_cases c : sMost B i (oc B i) < 0
  · rw [if_pos c, h0]
    refine ⟨by omega, by omega, ?_⟩
    rcases g with e | e | e <;> rw [e] <;> decide
  · rw [if_neg c]
    rw [Int32.lt_iff_toInt_lt, h0] at c
    omega
theorem bought_rng {B : mB} (h : mJ B) {i : Nat} (hi : i < nP B) : 0 ≤ (sBought B i).toInt ∧ (sBought B i).toInt ≤ 50 := by
  have b16 := (h.2.1.1 i hi).2.2
  have h0 : (0 : Int32).toInt = 0 := rfl
  have h50 : (50 : Int32).toInt = 50 := rfl
  rw [Int32.le_iff_toInt_le, Int32.le_iff_toInt_le, h0, h50] at b16
  unfold sBought; split
  · exact b16
  · rw [h0]; omega
theorem rest_val {B : mB} (h : mJ B) {i : Nat} (hi : i < nP B) (h2 : B 2 i = 0) : (sRest B i).toInt = if (sTop B i).toInt < (sBought B i).toInt then 0 else (sTop B i).toInt - (sBought B i).toInt := by
  have t := top_rng h hi
  have b := bought_rng h hi
  unfold sRest
  rw [if_pos h2]
  by_cases c : sTop B i < sBought B i
  · rw [if_pos c, if_pos (Int32.lt_iff_toInt_lt.mp c)]; rfl
  · rw [if_neg c, if_neg (fun z => c (Int32.lt_iff_toInt_lt.mpr z)), i32_sub_toInt (by omega) (by omega)]
theorem rest_rng {B : mB} (h : mJ B) {i : Nat} (hi : i < nP B) : ¬ sRest B i < 0 ∧ ¬ (20 * B 6 i + 10) < sRest B i := by
  have t := top_rng h hi
  have b := bought_rng h hi
  have h0 : (0 : Int32).toInt = 0 := rfl
  rw [Int32.lt_iff_toInt_lt, Int32.lt_iff_toInt_lt, h0]
  by_cases c : B 2 i = 0
  · rw [rest_val h hi c]; split <;> omega
  · rw [show sRest B i = 0 from if_neg c, h0]; omega
theorem acc_nn {B : mB} {N i j : Nat} (h : JX N B) (hi : i < nP B) (hj : j < 4) : ¬ B 14 (4 * i + j) < 0 := by
  rw [Int32.lt_iff_toInt_lt, show (0 : Int32).toInt = 0 from rfl]
  have := ((h.2 i hi).2.2 j hj).1
  omega
theorem sMost_cg {X Y : mB} (h6 : X 6 = Y 6) (h20 : X 20 = Y 20) (h0 : X 0 = Y 0) (h18 : X 18 = Y 18) (i : Nat) : ∀ n, sMost X i n = sMost Y i n
  | 0 => by show 20 * X 6 i + 10 = 20 * Y 6 i + 10; rw [h6]
  | n + 1 => by
    show sMost X i n - (if X 20 (50 * i + n) = 0 ∧ X 0 0 - X 18 (50 * i + n) ≤ 29 then 5 else 0) = sMost Y i n - (if Y 20 (50 * i + n) = 0 ∧ Y 0 0 - Y 18 (50 * i + n) ≤ 29 then 5 else 0)
    rw [sMost_cg h6 h20 h0 h18 i n, h20, h0, h18]
theorem sTop_cg {X Y : mB} (h6 : X 6 = Y 6) (h20 : X 20 = Y 20) (h0 : X 0 = Y 0) (h18 : X 18 = Y 18) (h10 : X 10 = Y 10) (i : Nat) : sTop X i = sTop Y i := by
  unfold sTop oc
  rw [sMost_cg h6 h20 h0 h18 i, h10]
theorem rest_buy {B : mB} (h : mJ B) {i a : Nat} (hi : i < nP B) (hix : ix (nI i) = i) (h2 : B 2 i = 0) (h1 : 1 ≤ a) (ha : a < 2000) (hr : nI a ≤ sRest B i) : sRest (up_buy B (nI i) (nI a)) i = sRest B i - nI a := by
  have t := top_rng h hi
  have b := bought_rng h hi
  have v := rest_val h hi h2
  have na : (nI a).toInt = (a : Int) := nI_toInt (by omega)
  rw [Int32.le_iff_toInt_le, na, v] at hr
  have c : ¬ (sTop B i).toInt < (sBought B i).toInt := fun z => by rw [if_pos z] at hr; omega
  rw [if_neg c] at hr
  have e1 : sTop (up_buy B (nI i) (nI a)) i = sTop B i := sTop_cg (by rfl) (by rfl) (by rfl) (by rfl) (by rfl) i
  have e2 : sBought (up_buy B (nI i) (nI a)) i = sBought B i + nI a := by
    unfold up_buy
    rw [hix]
    show (if va_up (B 15) i (B 0 0 / 7) i = B 0 0 / 7 then va_up (B 16) i (sBought B i + nI a) i else 0) = _
    rw [show va_up (B 15) i (B 0 0 / 7) i = B 0 0 / 7 from if_pos rfl, if_pos rfl]
    exact if_pos rfl
  have e3 : up_buy B (nI i) (nI a) 2 i = B 2 i := by rfl
  unfold sRest
  rw [e1, e2, e3, if_pos h2, if_pos h2]
  have s : (sBought B i + nI a).toInt = (sBought B i).toInt + a := by rw [i32_add_toInt (by omega) (by omega), na]
  rw [if_neg (show ¬ sTop B i < sBought B i + nI a by rw [Int32.lt_iff_toInt_lt, s]; omega), if_neg (show ¬ sTop B i < sBought B i by rw [Int32.lt_iff_toInt_lt]; exact c)]
  grind
theorem most_mono {B Y : mB} {i : Nat} (hB : B 6 i = 0 ∨ B 6 i = 1 ∨ B 6 i = 2) (hY : Y 6 i = 0 ∨ Y 6 i = 1 ∨ Y 6 i = 2) (h6 : (20 * B 6 i + 10).toInt ≤ (20 * Y 6 i + 10).toInt) (h0 : Y 0 0 = B 0 0) (h18 : Y 18 = B 18) (h20 : ∀ j, Y 20 j = 0 → B 20 j = 0) : ∀ n, n ≤ 50 → (sMost B i n).toInt ≤ (sMost Y i n).toInt := by
  intro n
  induction n with
  | zero => intro _; exact h6
  | succ n ih =>
    intro hn
    have ih := ih (by omega)
    have rB := sMost_rng hB n (by omega)
    have rY := sMost_rng hY n (by omega)
    have h5 : (5 : Int32).toInt = 5 := rfl
    show (sMost B i n - (if B 20 (50 * i + n) = 0 ∧ B 0 0 - B 18 (50 * i + n) ≤ 29 then 5 else 0)).toInt ≤ (sMost Y i n - (if Y 20 (50 * i + n) = 0 ∧ Y 0 0 - Y 18 (50 * i + n) ≤ 29 then 5 else 0)).toInt
    rw [h0, h18]
    by_cases c : Y 20 (50 * i + n) = 0 ∧ B 0 0 - B 18 (50 * i + n) ≤ 29
    · have c' : B 20 (50 * i + n) = 0 ∧ B 0 0 - B 18 (50 * i + n) ≤ 29 := ⟨h20 _ c.1, c.2⟩
      rw [if_pos c, if_pos c', i32_sub_toInt (by rw [h5]; omega) (by rw [h5]; omega), i32_sub_toInt (by rw [h5]; omega) (by rw [h5]; omega)]; omega
    · rw [if_neg c, Int32.sub_zero]
      split
      · rw [i32_sub_toInt (by rw [h5]; omega) (by rw [h5]; omega), h5]; omega
      · rw [Int32.sub_zero]; exact ih
theorem rest_mono {B Y : mB} (h : mJ B) (hJ : mJ Y) {i : Nat} (hi : i < nP B) (hn : nP Y = nP B) (h6 : (20 * B 6 i + 10).toInt ≤ (20 * Y 6 i + 10).toInt) (h0 : Y 0 0 = B 0 0) (h18 : Y 18 = B 18) (h20 : ∀ j, Y 20 j = 0 → B 20 j = 0) (h10 : Y 10 = B 10) (h15 : Y 15 = B 15) (h16 : Y 16 = B 16) (h2 : Y 2 = B 2) : ¬ sRest Y i < sRest B i := by
  have hiY : i < nP Y := by rw [hn]; exact hi
  have o : oc Y i = oc B i := by unfold oc; rw [h10]
  have m := most_mono (h.2.1.1 i hi).1 (hJ.2.1.1 i hiY).1 h6 h0 h18 h20 (oc B i) (mInv_oc50 h.1 hi).2
  have bb : sBought Y i = sBought B i := by unfold sBought; rw [h15, h16, h0]
  have tB := top_rng h hi
  have tY := top_rng hJ hiY
  have b := bought_rng h hi
  have hz : (0 : Int32).toInt = 0 := rfl
  have tt : (sTop B i).toInt ≤ (sTop Y i).toInt := by
    unfold sTop at tY ⊢
    rw [o] at tY ⊢
    by_cases c : sMost B i (oc B i) < 0
    · rw [if_pos c, hz]; omega
    · have c' : ¬ sMost Y i (oc B i) < 0 := by
        rw [Int32.lt_iff_toInt_lt, hz] at c ⊢; omega
      rw [if_neg c, if_neg c']; exact m
  rw [Int32.lt_iff_toInt_lt]
  by_cases c : B 2 i = 0
  · have c' : Y 2 i = 0 := by rw [h2]; exact c
    rw [rest_val h hi c, rest_val hJ hiY c', bb]
    split <;> split <;> omega
  · have c' : ¬ Y 2 i = 0 := by rw [h2]; exact c
    rw [show sRest B i = 0 from if_neg c, show sRest Y i = 0 from if_neg c', hz]; omega
theorem rest_new {B : mB} {d k9 : Int32} (h : mJ B) : sRest (up_admit B d k9) (nP B) = 30 ∧ up_admit B d k9 6 (nP B) = 1 := by
  obtain ⟨m2, m7, m8, m9, m10, m12, m13, m15, m16, m14⟩ := h.2.2 (nP B) (Nat.le_refl _)
  have e6 : up_admit B d k9 6 (nP B) = 1 := if_pos rfl
  have o : oc (up_admit B d k9) (nP B) = 0 := by
    show ix (B 10 (nP B)) = 0
    rw [m10]; rfl
  have t : sTop (up_admit B d k9) (nP B) = 30 := by
    unfold sTop
    rw [o]
    show (if 20 * up_admit B d k9 6 (nP B) + 10 < 0 then 0 else 20 * up_admit B d k9 6 (nP B) + 10) = 30
    rw [e6]; decide
  have b : sBought (up_admit B d k9) (nP B) = 0 := by
    show (if B 15 (nP B) = B 0 0 / 7 then B 16 (nP B) else 0) = 0
    rw [m16]; split <;> rfl
  refine ⟨?_, e6⟩
  show (if B 2 (nP B) = 0 then (if sTop (up_admit B d k9) (nP B) < sBought (up_admit B d k9) (nP B) then 0 else sTop (up_admit B d k9) (nP B) - sBought (up_admit B d k9) (nP B)) else 0) = 30
  rw [m2, t, b]; decide
/-! the regime -/
theorem rg_course {B : mB} {i : Nat} {sk days : Int32} (hix : ix (nI i) = i) : up_course B (nI i) sk days 6 i = B 6 i + (if B 6 i < 2 then 1 else 0) := by
  unfold up_course sRaise
  rw [hix]
  exact if_pos rfl
theorem rg_off {B : mB} {i : Nat} {days : Int32} (hix : ix (nI i) = i) : up_offence B (nI i) days 6 i = B 6 i - (if 0 < B 6 i then 1 else 0) := by
  unfold up_offence
  rw [hix]
  exact if_pos rfl
theorem rg_appeal {B : mB} {i : Nat} {w : Int32} (hix : ix (nI i) = i) : up_appeal B (nI i) w 6 i = B 6 i ∨ up_appeal B (nI i) w 6 i = B 6 i + (if B 6 i < 2 then 1 else 0) := by
  unfold up_appeal sRaise
  rw [hix]
  split
  · exact Or.inl rfl
  · exact Or.inr (if_pos rfl)
theorem rg_app3 {B : mB} (h : mJ B) {i : Nat} (hi : i < nP B) {w : Int32} (hix : ix (nI i) = i) : ¬ up_appeal B (nI i) w 6 i < B 6 i ∧ ¬ (B 6 i + 1) < up_appeal B (nI i) w 6 i ∧ (20 * B 6 i + 10).toInt ≤ (20 * up_appeal B (nI i) w 6 i + 10).toInt := by
  rcases rg_appeal (B := B) (w := w) hix with e | e <;> rw [e] <;> rcases (h.2.1.1 i hi).1 with g | g | g <;> rw [g] <;> decide
theorem rest_app {B : mB} (h : mJ B) {i k : Nat} (hi : i < nP B) (hix : ix (nI i) = i) (hJ : mJ (up_appeal B (nI i) (nI k))) : ¬ sRest (up_appeal B (nI i) (nI k)) i < sRest B i := by
  have g6 := (rg_app3 h hi (w := nI k) hix).2.2
  have h20 : ∀ j, up_appeal B (nI i) (nI k) 20 j = 0 → B 20 j = 0 := by
    intro j
    unfold up_appeal sRaise
    have key : ∀ a : Nat, z2 B 20 a 1 20 j = 0 → B 20 j = 0 := fun a hz => by
      rw [z2_at] at hz
      split at hz
      · exact absurd hz (by decide)
      · exact hz
    split
    · exact key _
    · exact key _
  have f : ∀ g9 : Nat, g9 ≠ 20 → g9 ≠ 6 → up_appeal B (nI i) (nI k) g9 = B g9 := fun g9 a b => by
    unfold up_appeal sRaise
    split
    · exact z2_ne1 _ _ _ a
    · exact (z2_ne1 _ _ _ b).trans (z2_ne1 _ _ _ a)
  exact rest_mono h hJ hi (by unfold nP; rw [f 1 (by decide) (by decide)]) g6 (by rw [f 0 (by decide) (by decide)]) (f 18 (by decide) (by decide)) h20 (f 10 (by decide) (by decide)) (f 15 (by decide) (by decide)) (f 16 (by decide) (by decide)) (f 2 (by decide) (by decide))
/-! what is thrown -/
theorem vPt {B : mB} (h : mInv B) {i : Nat} (hi : i < nP B) : vP B (nI i) = true := (vP_iff h).mpr ⟨i, hi, rfl⟩
theorem vPf {B : mB} (h : mInv B) {i : Nat} (hi : ¬ i < nP B) (h9 : i < 2 ^ 30) : ¬ vP B (nI i) = true := fun z => by
  obtain ⟨j, hj, e⟩ := (vP_iff h).mp z
  have := h.1.1
  exact hi (by rw [(nI_eq (by omega) (by omega)).mp e]; exact hj)
theorem vPm {B : mB} (h : mInv B) : ¬ vP B (-1) = true := fun z => by
  obtain ⟨j, hj, e⟩ := (vP_iff h).mp z
  have := h.1.1
  exact nI_neg (by omega) e
theorem vOt {B : mB} (h : mInv B) {i : Nat} (hi : i < nO B) : vO B (nI i) = true := (vO_iff h).mpr ⟨i, hi, rfl⟩
theorem vOf {B : mB} (h : mInv B) {i : Nat} (hi : ¬ i < nO B) (h9 : i < 2 ^ 30) : ¬ vO B (nI i) = true := fun z => by
  obtain ⟨j, hj, e⟩ := (vO_iff h).mp z
  have := h.2.1.1
  exact hi (by rw [(nI_eq (by omega) (by omega)).mp e]; exact hj)
theorem vOm {B : mB} (h : mInv B) : ¬ vO B (-1) = true := fun z => by
  obtain ⟨j, hj, e⟩ := (vO_iff h).mp z
  have := h.2.1.1
  exact nI_neg (by omega) e
theorem vL {v a b : Nat} (hv : v < 2 ^ 31) (ha : a < 2 ^ 31) (hb : b < 2 ^ 31) : vLies (nI v) (nI a) (nI b) = true ↔ a ≤ v ∧ v ≤ b := by
  unfold vLies
  simp only [Bool.and_eq_true, decide_eq_true_eq, nI_ltI hv ha, nI_ltI hb hv]
  omega
theorem cdP1 {B : mB} (h : mInv B) {i : Nat} (hi : ¬ i < nP B) (h9 : i < 2 ^ 30) : ¬ cd_P B (nI i) = 0 := fun z => by
  unfold cd_P at z; rw [if_neg (vPf h hi h9)] at z; exact absurd z (by decide)
theorem cdPm {B : mB} (h : mInv B) : ¬ cd_P B (-1) = 0 := fun z => by
  unfold cd_P at z; rw [if_neg (vPm h)] at z; exact absurd z (by decide)
theorem cdO1 {B : mB} (h : mInv B) {i : Nat} (hi : ¬ i < nO B) (h9 : i < 2 ^ 30) : ¬ cd_O B (nI i) = 0 := fun z => by
  unfold cd_O at z; rw [if_neg (vOf h hi h9)] at z; exact absurd z (by decide)
theorem cdOm {B : mB} (h : mInv B) : ¬ cd_O B (-1) = 0 := fun z => by
  unfold cd_O at z; rw [if_neg (vOm h)] at z; exact absurd z (by decide)
theorem cdK3 {B : mB} : ¬ cd_K B 3 = 0 := by
  show ¬ (if vLies 3 0 2 = true then (0 : Int32) else 1) = 0
  decide
theorem cdKm {B : mB} : ¬ cd_K B (-1) = 0 := by
  show ¬ (if vLies (-1) 0 2 = true then (0 : Int32) else 1) = 0
  decide
theorem cdA4 {B : mB} {its : Int32} : ¬ cd_account B its 4 = 0 := fun z => by
  unfold cd_account at z; rw [if_neg (fun w => absurd w.2 (by decide))] at z; exact absurd z (by decide)
theorem cdAm {B : mB} {its : Int32} : ¬ cd_account B its (-1) = 0 := fun z => by
  unfold cd_account at z; rw [if_neg (fun w => absurd w.2 (by decide))] at z; exact absurd z (by decide)
theorem cdAdmit1 {B : mB} (h : mInv B) {t k : Nat} (ht : t < 3000) (hk : k < 100) (c : ¬ (1 ≤ t ∧ t ≤ 2000 ∧ k ≤ 15)) : cd_admit B (nI t) (nI k) = 1 := by
  refine if_neg (fun z => c ?_)
  have z1 := (vL (v := t) (a := 1) (b := 2000) (by omega) (by omega) (by omega)).mp z.1
  have z2 := (vL (v := k) (a := 0) (b := 15) (by omega) (by omega) (by omega)).mp z.2
  omega
theorem cdAdmit0 {B : mB} (h : mInv B) {t k : Nat} (h1 : 1 ≤ t) (ht : t ≤ 2000) (hk : k ≤ 15) (hn : nP B < 10) : cd_admit B (nI t) (nI k) = 0 := by
  unfold cd_admit
  rw [if_pos ⟨(vL (v := t) (a := 1) (b := 2000) (by omega) (by omega) (by omega)).mpr ⟨h1, ht⟩, (vL (v := k) (a := 0) (b := 15) (by omega) (by omega) (by omega)).mpr ⟨by omega, hk⟩⟩]
  refine if_neg (fun z => ?_)
  rw [h.1.2] at z
  have := (nI_eq (a := nP B) (b := 10) (by omega) (by omega)).mp z
  omega
theorem vS {o : Nat} (ho : o < 1000) : vLies (nI o) 0 3 = true ↔ o < 4 := by
  rw [show vLies (nI o) 0 3 = vLies (nI o) (nI 0) (nI 3) from rfl, vL (by omega) (by omega) (by omega)]; omega
theorem vK {o : Nat} (ho : o < 1000) : vLies (nI o) 0 2 = true ↔ o < 3 := by
  rw [show vLies (nI o) 0 2 = vLies (nI o) (nI 0) (nI 2) from rfl, vL (by omega) (by omega) (by omega)]; omega
theorem vD {o : Nat} (ho : o < 1000) : vLies (nI o) 0 100 = true ↔ o ≤ 100 := by
  rw [show vLies (nI o) 0 100 = vLies (nI o) (nI 0) (nI 100) from rfl, vL (by omega) (by omega) (by omega)]; omega
theorem cdCourse1 {B : mB} (h : mInv B) {i o : Nat} {d : Int32} (hi9 : i < 2 ^ 30) (ho : o < 1000) (c : ¬ (i < nP B ∧ o < 4)) : cd_course B (nI i) (nI o) d = 1 := by
  refine if_neg (fun z => c ⟨?_, (vS ho).mp z.2⟩)
  exact Classical.not_not.mp (fun n => vPf h n hi9 z.1)
theorem cdCourse2 {B : mB} (h : mInv B) {i o d : Nat} (hi : i < nP B) (ho : o < 4) (hd : 100 < d) (hd9 : d < 1000) : cd_course B (nI i) (nI o) (nI d) = 2 := by
  unfold cd_course
  rw [if_pos ⟨vPt h hi, (vS (by omega)).mpr ho⟩]
  exact if_neg (fun z => by have := (vD hd9).mp z; omega)
theorem cdCourse3 {B : mB} (h : mInv B) {i o d : Nat} (hi : i < nP B) (hix : ix (nI i) = i) (ho : o < 4) (hd : d ≤ 100) (c : ¬ B 2 i = 0 ∨ B 9 i = 50) : cd_course B (nI i) (nI o) (nI d) = 3 := by
  unfold cd_course
  rw [if_pos ⟨vPt h hi, (vS (by omega)).mpr ho⟩, if_pos ((vD (by omega)).mpr hd), hix]
  by_cases e : B 2 i = 0
  · rw [if_pos e]; exact if_pos (c.resolve_left (fun z => z e))
  · exact if_neg e
theorem cdCourse0 {B : mB} (h : mInv B) {i o d : Nat} (hi : i < nP B) (hix : ix (nI i) = i) (ho : o < 4) (hd : d ≤ 100) (c1 : B 2 i = 0) (c2 : ¬ B 9 i = 50) : cd_course B (nI i) (nI o) (nI d) = 0 := by
  unfold cd_course
  rw [if_pos ⟨vPt h hi, (vS (by omega)).mpr ho⟩, if_pos ((vD (by omega)).mpr hd), hix, if_pos c1]
  exact if_neg c2
theorem cdOff1 {B : mB} (h : mInv B) {i : Nat} {d : Int32} (hi9 : i < 2 ^ 30) (c : ¬ i < nP B) : cd_offence B (nI i) d = 1 := if_neg (vPf h c hi9)
theorem cdOff2 {B : mB} (h : mInv B) {i d : Nat} (hi : i < nP B) (hd : 100 < d) (hd9 : d < 1000) : cd_offence B (nI i) (nI d) = 2 := by
  unfold cd_offence
  rw [if_pos (vPt h hi)]
  exact if_neg (fun z => by have := (vD hd9).mp z; omega)
theorem cdOff3 {B : mB} (h : mInv B) {i d : Nat} (hi : i < nP B) (hix : ix (nI i) = i) (hd : d ≤ 100) (c : ¬ B 2 i = 0 ∨ B 9 i = 50) : cd_offence B (nI i) (nI d) = 3 := by
  unfold cd_offence
  rw [if_pos (vPt h hi), if_pos ((vD (by omega)).mpr hd), hix]
  by_cases e : B 2 i = 0
  · rw [if_pos e]; exact if_pos (c.resolve_left (fun z => z e))
  · exact if_neg e
theorem cdOff0 {B : mB} (h : mInv B) {i d : Nat} (hi : i < nP B) (hix : ix (nI i) = i) (hd : d ≤ 100) (c1 : B 2 i = 0) (c2 : ¬ B 9 i = 50) : cd_offence B (nI i) (nI d) = 0 := by
  unfold cd_offence
  rw [if_pos (vPt h hi), if_pos ((vD (by omega)).mpr hd), hix, if_pos c1]
  exact if_neg c2
theorem vW {B : mB} (h : mInv B) {i w : Nat} (hi : i < nP B) (hw : w < 1000) : vLies (nI w) 0 (B 10 i - 1) = true ↔ w < oc B i := by
  have ho := mInv_oc50 h hi
  rw [ho.1, vLies_nat (by omega)]
  constructor
  · intro ⟨j, hj, e⟩
    rw [(nI_eq (by omega) (by omega)).mp e]; exact hj
  · intro z; exact ⟨w, z, rfl⟩
theorem cdApp1 {B : mB} (h : mInv B) {i w : Nat} (hi9 : i < 2 ^ 30) (hix : ix (nI i) = i) (hw : w < 1000) (c : ¬ (i < nP B ∧ w < oc B i)) : cd_appeal B (nI i) (nI w) = 1 := by
  refine if_neg (fun z => ?_)
  rw [hix] at z
  have hi : i < nP B := Classical.not_not.mp (fun n => vPf h n hi9 z.1)
  exact c ⟨hi, (vW h hi hw).mp z.2⟩
theorem cdApp2 {B : mB} (h : mInv B) {i w : Nat} (hi : i < nP B) (hix : ix (nI i) = i) (hwx : ix (nI w) = w) (hw : w < 1000) (hw1 : w < oc B i) (c : ¬ B 2 i = 0 ∨ ¬ B 20 (50 * i + w) = 0) : cd_appeal B (nI i) (nI w) = 2 := by
  unfold cd_appeal
  rw [hix, hwx, if_pos ⟨vPt h hi, (vW h hi hw).mpr hw1⟩]
  by_cases e : B 2 i = 0
  · rw [if_pos e]; exact if_neg (c.resolve_left (fun z => z e))
  · exact if_neg e
theorem cdApp0 {B : mB} (h : mInv B) {i w : Nat} (hi : i < nP B) (hix : ix (nI i) = i) (hwx : ix (nI w) = w) (hw : w < 1000) (hw1 : w < oc B i) (c1 : B 2 i = 0) (c2 : B 20 (50 * i + w) = 0) : cd_appeal B (nI i) (nI w) = 0 := by
  unfold cd_appeal
  rw [hix, hwx, if_pos ⟨vPt h hi, (vW h hi hw).mpr hw1⟩, if_pos c1]
  exact if_pos c2
theorem vN20 {o : Nat} (ho : o < 1000) : vLies (nI o) 0 20 = true ↔ o ≤ 20 := by
  rw [show vLies (nI o) 0 20 = vLies (nI o) (nI 0) (nI 20) from rfl, vL (by omega) (by omega) (by omega)]; omega
theorem cdTool1 {B : mB} (h : mInv B) {k : Nat} {n : Int32} (hk9 : k < 1000) (c : ¬ k < 3) : cd_setTools B (nI k) n = 1 := if_neg (fun z => c ((vK hk9).mp z))
theorem cdTool2 {B : mB} (h : mInv B) {k n : Nat} (hk : k < 3) (hn9 : n < 1000) (c : 20 < n) : cd_setTools B (nI k) (nI n) = 2 := by
  unfold cd_setTools
  rw [if_pos ((vK (by omega)).mpr hk)]
  exact if_neg (fun z => by have := (vN20 hn9).mp z; omega)
theorem cdTool3 {B : mB} (h : mInv B) {k n : Nat} (hk : k < 3) (hn : n ≤ 20) (c : nI n < sOut B (nI k) (nP B)) : cd_setTools B (nI k) (nI n) = 3 := by
  unfold cd_setTools
  rw [if_pos ((vK (by omega)).mpr hk), if_pos ((vN20 (by omega)).mpr hn)]
  exact if_pos c
theorem cdTool0 {B : mB} (h : mInv B) {k n : Nat} (hk : k < 3) (hn : n ≤ 20) (c : ¬ nI n < sOut B (nI k) (nP B)) : cd_setTools B (nI k) (nI n) = 0 := by
  unfold cd_setTools
  rw [if_pos ((vK (by omega)).mpr hk), if_pos ((vN20 (by omega)).mpr hn)]
  exact if_neg c
theorem cdOrd1 {B : mB} (h : mInv B) {a k : Nat} {w g : Int32} (ha : a < 1000) (hk : k < 1000) (c : ¬ (a < 4 ∧ k < 3)) : cd_addOrder B (nI a) (nI k) w g = 1 := if_neg (fun z => c ⟨(vS ha).mp z.1, (vK hk).mp z.2⟩)
theorem cdOrd2 {B : mB} (h : mInv B) {a k w : Nat} {g : Int32} (ha : a < 4) (hk : k < 3) (hw9 : w < 1000) (c : 500 < w) : cd_addOrder B (nI a) (nI k) (nI w) g = 2 := by
  unfold cd_addOrder
  rw [if_pos ⟨(vS (by omega)).mpr ha, (vK (by omega)).mpr hk⟩]
  refine if_neg (fun z => ?_)
  have := (vL (v := w) (a := 1) (b := 500) (by omega) (by omega) (by omega)).mp z.1
  omega
theorem cdOrdV {B : mB} (h : mInv B) {a k w g : Nat} (ha : a < 4) (hk : k < 3) (hw1 : 1 ≤ w) (hw : w ≤ 500) (hg : g ≤ 1000) : cd_addOrder B (nI a) (nI k) (nI w) (nI g) = if B 22 0 = 8 then 3 else 0 := by
  unfold cd_addOrder
  rw [if_pos ⟨(vS (by omega)).mpr ha, (vK (by omega)).mpr hk⟩]
  exact if_pos ⟨(vL (v := w) (a := 1) (b := 500) (by omega) (by omega) (by omega)).mpr ⟨hw1, hw⟩, (vL (v := g) (a := 0) (b := 1000) (by omega) (by omega) (by omega)).mpr ⟨by omega, hg⟩⟩
theorem cdOrd3 {B : mB} (h : mInv B) {a k w g : Nat} (ha : a < 4) (hk : k < 3) (hw1 : 1 ≤ w) (hw : w ≤ 500) (hg : g ≤ 1000) (c : nO B = 8) : cd_addOrder B (nI a) (nI k) (nI w) (nI g) = 3 := by
  rw [cdOrdV h ha hk hw1 hw hg, h.2.1.2, c]; rfl
theorem cdOrd0 {B : mB} (h : mInv B) {a k w g : Nat} (ha : a < 4) (hk : k < 3) (hw1 : 1 ≤ w) (hw : w ≤ 500) (hg : g ≤ 1000) (c : ¬ nO B = 8) : cd_addOrder B (nI a) (nI k) (nI w) (nI g) = 0 := by
  rw [cdOrdV h ha hk hw1 hw hg]
  refine if_neg (fun z => c ?_)
  rw [h.2.1.2] at z
  have := h.2.1.1
  exact (nI_eq (a := nO B) (b := 8) (by omega) (by omega)).mp z
theorem cdAss1 {B : mB} (h : mInv B) {i j : Nat} (hi9 : i < 2 ^ 30) (hj9 : j < 2 ^ 30) (c : ¬ (i < nP B ∧ j < nO B)) : cd_assign B (nI i) (nI j) = 1 :=
  if_neg (fun z => c ⟨Classical.not_not.mp (fun n => vPf h n hi9 z.1), Classical.not_not.mp (fun n => vOf h n hj9 z.2)⟩)
theorem cdAssV {B : mB} (h : mInv B) {i j : Nat} (hi : i < nP B) (hj : j < nO B) (hix : ix (nI i) = i) (hjx : ix (nI j) = j) : cd_assign B (nI i) (nI j) = if B 2 i = 0 then (if B 11 i = -1 then (if (B 5 i >>> (B 23 j &&& 31)) &&& 1 = 1 then (if 0 < B 25 j then (if sOut B (B 24 j) (nP B) < B 21 (kx B j) then 0 else 2) else 2) else 2) else 2) else 2 := by
  unfold cd_assign
  rw [if_pos ⟨vPt h hi, vOt h hj⟩, hix, hjx]
theorem cdAss2 {B : mB} (h : mInv B) {i j : Nat} (hi : i < nP B) (hj : j < nO B) (hix : ix (nI i) = i) (hjx : ix (nI j) = j) (c : ¬ (B 2 i = 0 ∧ B 11 i = -1 ∧ (B 5 i >>> (B 23 j &&& 31)) &&& 1 = 1 ∧ 0 < B 25 j ∧ sOut B (B 24 j) (nP B) < B 21 (kx B j))) : cd_assign B (nI i) (nI j) = 2 := by
  rw [cdAssV h hi hj hix hjx]
  by_cases c1 : B 2 i = 0
  · rw [if_pos c1]
    by_cases c2 : B 11 i = -1
    · rw [if_pos c2]
      by_cases c3 : (B 5 i >>> (B 23 j &&& 31)) &&& 1 = 1
      · rw [if_pos c3]
        by_cases c4 : 0 < B 25 j
        · rw [if_pos c4]
          exact if_neg (fun c5 => c ⟨c1, c2, c3, c4, c5⟩)
        · exact if_neg c4
      · exact if_neg c3
    · exact if_neg c2
  · exact if_neg c1
theorem cdAss0 {B : mB} (h : mInv B) {i j : Nat} (hi : i < nP B) (hj : j < nO B) (hix : ix (nI i) = i) (hjx : ix (nI j) = j) (c1 : B 2 i = 0) (c2 : B 11 i = -1) (c3 : (B 5 i >>> (B 23 j &&& 31)) &&& 1 = 1) (c4 : 0 < B 25 j) (c5 : sOut B (B 24 j) (nP B) < B 21 (kx B j)) : cd_assign B (nI i) (nI j) = 0 := by
  rw [cdAssV h hi hj hix hjx, if_pos c1, if_pos c2, if_pos c3, if_pos c4]
  exact if_pos c5
theorem cdOffT1 {B : mB} (h : mInv B) {i : Nat} (hi9 : i < 2 ^ 30) (c : ¬ i < nP B) : cd_takeOff B (nI i) = 1 := if_neg (vPf h c hi9)
theorem cdOffT2 {B : mB} (h : mInv B) {i : Nat} (hi : i < nP B) (hix : ix (nI i) = i) (c : B 11 i = -1) : cd_takeOff B (nI i) = 2 := by
  unfold cd_takeOff
  rw [if_pos (vPt h hi), hix]
  exact if_pos c
theorem cdOffT0 {B : mB} (h : mInv B) {i : Nat} (hi : i < nP B) (hix : ix (nI i) = i) (c : ¬ B 11 i = -1) : cd_takeOff B (nI i) = 0 := by
  unfold cd_takeOff
  rw [if_pos (vPt h hi), hix]
  exact if_neg c
theorem vA {a : Nat} (ha : a < 3000) : vLies (nI a) 1 1000 = true ↔ 1 ≤ a ∧ a ≤ 1000 := by
  rw [show vLies (nI a) 1 1000 = vLies (nI a) (nI 1) (nI 1000) from rfl, vL (by omega) (by omega) (by omega)]
theorem cdBuy1 {B : mB} (h : mInv B) {i : Nat} {a : Int32} (hi9 : i < 2 ^ 30) (c : ¬ i < nP B) : cd_buy B (nI i) a = 1 := if_neg (vPf h c hi9)
theorem cdBuy2 {B : mB} (h : mInv B) {i a : Nat} (hi : i < nP B) (ha : a < 3000) (c : ¬ (1 ≤ a ∧ a ≤ 1000)) : cd_buy B (nI i) (nI a) = 2 := by
  unfold cd_buy
  rw [if_pos (vPt h hi)]
  exact if_neg (fun z => c ((vA ha).mp z))
theorem cdBuyV {B : mB} (h : mInv B) {i a : Nat} (hi : i < nP B) (hix : ix (nI i) = i) (h1 : 1 ≤ a) (ha : a ≤ 1000) : cd_buy B (nI i) (nI a) = if B 2 i = 0 then (if nI a ≤ B 14 (4 * i + 3) then (if nI a ≤ sRest B i then 0 else 3) else 3) else 3 := by
  unfold cd_buy
  rw [if_pos (vPt h hi), if_pos ((vA (by omega)).mpr ⟨h1, ha⟩), hix]
theorem cdBuy3 {B : mB} (h : mInv B) {i a : Nat} (hi : i < nP B) (hix : ix (nI i) = i) (h1 : 1 ≤ a) (ha : a ≤ 1000) (c : ¬ (B 2 i = 0 ∧ nI a ≤ B 14 (4 * i + 3) ∧ nI a ≤ sRest B i)) : cd_buy B (nI i) (nI a) = 3 := by
  rw [cdBuyV h hi hix h1 ha]
  by_cases c1 : B 2 i = 0
  · rw [if_pos c1]
    by_cases c2 : nI a ≤ B 14 (4 * i + 3)
    · rw [if_pos c2]; exact if_neg (fun c3 => c ⟨c1, c2, c3⟩)
    · exact if_neg c2
  · exact if_neg c1
theorem cdBuy0 {B : mB} (h : mInv B) {i a : Nat} (hi : i < nP B) (hix : ix (nI i) = i) (h1 : 1 ≤ a) (ha : a ≤ 1000) (c1 : B 2 i = 0) (c2 : nI a ≤ B 14 (4 * i + 3)) (c3 : nI a ≤ sRest B i) : cd_buy B (nI i) (nI a) = 0 := by
  rw [cdBuyV h hi hix h1 ha, if_pos c1, if_pos c2]
  exact if_pos c3
theorem q_ge {B A : mB} (h : JE B A) {i w : Nat} (hi : i < nP B) (hw : w < oc B i) : (1000 ≤ A 3 (10 * i + w)) ↔ ¬ B 20 (50 * i + w) = 0 := by
  obtain ⟨⟨d, hd, e⟩, b, q⟩ := (h.2.2.2.1 i (Nat.lt_of_lt_of_le hi h.1.1)).2.2 w hw
  rw [q, e]
  rcases b with z | z
  · rw [z, if_pos rfl]
    have : ¬ (1000 : Int32) ≤ nI d + 0 := by
      rw [Int32.add_zero, show (1000 : Int32) = nI 1000 from rfl, nI_leI (by omega) (by omega)]; omega
    exact ⟨fun c => absurd c this, fun c => absurd rfl c⟩
  · rw [z, if_neg (show ¬ (1 : Int32) = 0 by decide)]
    have : (1000 : Int32) ≤ nI d + 1000 := by
      rw [show (nI d + 1000 : Int32) = nI (d + 1000) from nI_add d 1000, show (1000 : Int32) = nI 1000 from rfl, nI_leI (by omega) (by omega)]; omega
    exact ⟨fun _ => by decide, fun _ => this⟩
theorem on_ge {B : mB} (h : mInv B) {i : Nat} (hi : i < nP B) : (0 ≤ B 11 i ↔ ¬ B 11 i = -1) ∧ (B 11 i < 0 ↔ B 11 i = -1) := by
  have hO := h.2.1.1
  rcases (h.2.2.1 i hi).2.2.2.2 with e | ⟨e, hj⟩
  · rw [e]; decide
  · rw [e]
    have n1 : ¬ nI (ox B i) = -1 := fun z => nI_neg (by omega) z.symm
    have n2 : (0 : Int32) ≤ nI (ox B i) := nI_pos' (by omega)
    have n3 : ¬ nI (ox B i) < 0 := nI_pos (by omega)
    exact ⟨⟨fun _ => n1, fun _ => n2⟩, ⟨fun z => absurd z n3, fun z => absurd z n1⟩⟩
