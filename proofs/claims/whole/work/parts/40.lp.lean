/-! THE LAW'S STEP, beside the machine -/
theorem ite_0 {p : Prop} [Decidable p] {a b : Int32} (h : (if p then a else b) = 0) (hb : ¬ b = 0) : p ∧ a = 0 := by
  by_cases c : p
  · rw [if_pos c] at h; exact ⟨c, h⟩
  · rw [if_neg c] at h; exact absurd h hb
theorem ite_1 {p : Prop} [Decidable p] {a b : Int32} (h : (if p then a else b) = 0) (ha : ¬ a = 0) : ¬ p ∧ b = 0 := by
  by_cases c : p
  · rw [if_pos c] at h; exact absurd h ha
  · rw [if_neg c] at h; exact ⟨c, h⟩
theorem vP_nI {B : mB} (h : mInv B) {its : Int32} (c : vP B its = true) : ∃ i, its = nI i ∧ i < nP B ∧ ix (nI i) = i := by
  rcases vP_split h its with ⟨i, e, hi, -, -, hix⟩ | c'
  · exact ⟨i, e, hi, hix⟩
  · rw [c] at c'; exact absurd c' (by decide)
theorem vO_nI {B : mB} (h : mInv B) {o : Int32} (c : vO B o = true) : ∃ j, o = nI j ∧ j < nO B ∧ ix (nI j) = j := by
  rcases vO_split h o with ⟨j, e, hj, -, -, hjx⟩ | c'
  · exact ⟨j, e, hj, hjx⟩
  · rw [c] at c'; exact absurd c' (by decide)
theorem JU_admit {B : mB} {d k : Int32} (h : mJ B) (hc : cd_admit B d k = 0) : mJ (up_admit B d k) := by
  unfold cd_admit at hc
  obtain ⟨-, hc⟩ := ite_0 hc (by decide)
  obtain ⟨c, -⟩ := ite_1 hc (by decide)
  exact J_admit h (mInv_lt h.1 c)
theorem JU_course {B : mB} {its sk days : Int32} (h : mJ B) (hc : cd_course B its sk days = 0) : mJ (up_course B its sk days) := by
  unfold cd_course at hc
  obtain ⟨c1, hc⟩ := ite_0 hc (by decide)
  obtain ⟨i, rfl, hi, hix⟩ := vP_nI h.1 c1.1
  obtain ⟨-, hc⟩ := ite_0 hc (by decide)
  obtain ⟨-, hc⟩ := ite_0 hc (by decide)
  obtain ⟨c, -⟩ := ite_1 hc (by decide)
  rw [hix] at c
  exact J_course h hi hix c
theorem JU_offence {B : mB} {its days : Int32} (h : mJ B) (hc : cd_offence B its days = 0) : mJ (up_offence B its days) := by
  unfold cd_offence at hc
  obtain ⟨c1, hc⟩ := ite_0 hc (by decide)
  obtain ⟨i, rfl, hi, hix⟩ := vP_nI h.1 c1
  obtain ⟨-, hc⟩ := ite_0 hc (by decide)
  obtain ⟨-, hc⟩ := ite_0 hc (by decide)
  obtain ⟨c, -⟩ := ite_1 hc (by decide)
  rw [hix] at c
  exact J_offence h hi hix c
theorem JU_appeal {B : mB} {its which : Int32} (h : mJ B) (hc : cd_appeal B its which = 0) : mJ (up_appeal B its which) := by
  unfold cd_appeal at hc
  obtain ⟨c1, hc⟩ := ite_0 hc (by decide)
  obtain ⟨i, rfl, hi, hix⟩ := vP_nI h.1 c1.1
  obtain ⟨h1, h2, h3⟩ := h
  unfold up_appeal sRaise
  rw [hix]
  split
  · exact ⟨h1, h2, h3⟩
  · exact ⟨h1, i2_6 (B := z2 B 20 _ 1) h2 (rg_up (h2.1 i hi).1), h3⟩
theorem JU_setTools {B : mB} {k n : Int32} (h : mJ B) (_ : cd_setTools B k n = 0) : mJ (up_setTools B k n) := J_setTools h
theorem JU_addOrder {B : mB} {s9 k9 w9 g9 : Int32} (h : mJ B) (hc : cd_addOrder B s9 k9 w9 g9 = 0) : mJ (up_addOrder B s9 k9 w9 g9) := by
  unfold cd_addOrder at hc
  obtain ⟨c1, hc⟩ := ite_0 hc (by decide)
  obtain ⟨c2, hc⟩ := ite_0 hc (by decide)
  obtain ⟨c, -⟩ := ite_1 hc (by decide)
  obtain ⟨i, hi, rfl⟩ := (vLies_nat (n := 4) (by decide)).mp c1.1
  obtain ⟨k, hk, rfl⟩ := (vLies_nat (n := 3) (by decide)).mp c1.2
  exact J_addOrder h hi hk c2.1 (mInv_ltO h.1 c)
theorem JU_assign {B : mB} {its o : Int32} (h : mJ B) (hc : cd_assign B its o = 0) : mJ (up_assign B its o) := by
  unfold cd_assign at hc
  obtain ⟨c1, hc⟩ := ite_0 hc (by decide)
  obtain ⟨i, rfl, hi, hix⟩ := vP_nI h.1 c1.1
  obtain ⟨j, rfl, hj, hjx⟩ := vO_nI h.1 c1.2
  exact J_assign h hj hix
theorem JU_takeOff {B : mB} {its : Int32} (h : mJ B) (hc : cd_takeOff B its = 0) : mJ (up_takeOff B its) := by
  unfold cd_takeOff at hc
  obtain ⟨c1, hc⟩ := ite_0 hc (by decide)
  obtain ⟨i, rfl, hi, hix⟩ := vP_nI h.1 c1
  exact J_takeOff h hix
theorem JU_buy {B : mB} {its a : Int32} (h : mJ B) (hc : cd_buy B its a = 0) : mJ (up_buy B its a) := by
  unfold cd_buy at hc
  obtain ⟨c1, hc⟩ := ite_0 hc (by decide)
  obtain ⟨i, rfl, hi, hix⟩ := vP_nI h.1 c1
  obtain ⟨c2, hc⟩ := ite_0 hc (by decide)
  obtain ⟨-, hc⟩ := ite_0 hc (by decide)
  obtain ⟨-, hc⟩ := ite_0 hc (by decide)
  obtain ⟨c3, -⟩ := ite_0 hc (by decide)
  rw [hix] at c3
  exact J_buy h hi hix c2 c3
theorem JU_pass {B : mB} {d : Int32} (h : mJ B) (_ : cd_pass B d = 0) : mJ (up_pass B d) := J_pass h
/-! the place that tells the last throw is read by nobody -/
theorem sMost_27 {B : mB} {v : Int32} (i k : Nat) : sMost (z2 B 27 0 v) i k = sMost B i k := by
  induction k with
  | zero => rfl
  | succ k ih =>
    show sMost (z2 B 27 0 v) i k - (if B 20 (50 * i + k) = 0 ∧ B 0 0 - B 18 (50 * i + k) ≤ 29 then 5 else 0) = sMost B i k - (if B 20 (50 * i + k) = 0 ∧ B 0 0 - B 18 (50 * i + k) ≤ 29 then 5 else 0)
    rw [ih]
theorem sRest_27 {B : mB} {v : Int32} (i : Nat) : sRest (z2 B 27 0 v) i = sRest B i := by
  have e : sTop (z2 B 27 0 v) i = sTop B i := by
    show (if sMost (z2 B 27 0 v) i (oc B i) < 0 then 0 else sMost (z2 B 27 0 v) i (oc B i)) = _
    rw [sMost_27]; rfl
  show (if B 2 i = 0 then (if sTop (z2 B 27 0 v) i < sBought B i then 0 else sTop (z2 B 27 0 v) i - sBought B i) else 0) = _
  rw [e]; rfl
theorem c27_admit (B : mB) (d k : Int32) : cd_admit (z2 B 27 0 0) d k = cd_admit B d k := rfl
theorem c27_course (B : mB) (its sk days : Int32) : cd_course (z2 B 27 0 0) its sk days = cd_course B its sk days := rfl
theorem c27_offence (B : mB) (its days : Int32) : cd_offence (z2 B 27 0 0) its days = cd_offence B its days := rfl
theorem c27_appeal (B : mB) (its which : Int32) : cd_appeal (z2 B 27 0 0) its which = cd_appeal B its which := rfl
theorem c27_P (B : mB) (its : Int32) : cd_P (z2 B 27 0 0) its = cd_P B its := rfl
theorem c27_setTools (B : mB) (k n : Int32) : cd_setTools (z2 B 27 0 0) k n = cd_setTools B k n := by
  show (if vLies k 0 2 = true then (if vLies n 0 20 = true then (if n < sOut (z2 B 27 0 0) k (nP B) then 3 else 0) else 2) else 1) = _
  rw [sOut_z2 (by decide) (by decide)]; rfl
theorem c27_K (B : mB) (k : Int32) : cd_K (z2 B 27 0 0) k = cd_K B k := rfl
theorem c27_addOrder (B : mB) (s k w g : Int32) : cd_addOrder (z2 B 27 0 0) s k w g = cd_addOrder B s k w g := rfl
theorem c27_assign (B : mB) (its o : Int32) : cd_assign (z2 B 27 0 0) its o = cd_assign B its o := by
  show (if vP B its = true ∧ vO B o = true then (if B 2 (ix its) = 0 then (if B 11 (ix its) = -1 then (if (B 5 (ix its) >>> (B 23 (ix o) &&& 31)) &&& 1 = 1 then (if 0 < B 25 (ix o) then (if sOut (z2 B 27 0 0) (B 24 (ix o)) (nP B) < B 21 (kx B (ix o)) then 0 else 2) else 2) else 2) else 2) else 2) else 1) = _
  rw [sOut_z2 (by decide) (by decide)]; rfl
theorem c27_takeOff (B : mB) (its : Int32) : cd_takeOff (z2 B 27 0 0) its = cd_takeOff B its := rfl
theorem c27_O (B : mB) (o : Int32) : cd_O (z2 B 27 0 0) o = cd_O B o := rfl
theorem c27_account (B : mB) (its a : Int32) : cd_account (z2 B 27 0 0) its a = cd_account B its a := rfl
theorem c27_buy (B : mB) (its a : Int32) : cd_buy (z2 B 27 0 0) its a = cd_buy B its a := by
  show (if vP B its = true then (if vLies a 1 1000 = true then (if B 2 (ix its) = 0 then (if a ≤ B 14 (4 * ix its + 3) then (if a ≤ sRest (z2 B 27 0 0) (ix its) then 0 else 3) else 3) else 3) else 2) else 1) = _
  rw [sRest_27]; rfl
theorem c27_pass (B : mB) (d : Int32) : cd_pass (z2 B 27 0 0) d = cd_pass B d := rfl
theorem t27_0 (B : mB) : z2 B 27 0 0 27 0 = 0 := z2_same _ _ _ _
theorem t27_v (B : mB) (v : Int32) : z2 B 27 0 v 27 0 = v := z2_same _ _ _ _
theorem t27_admit (B : mB) (d k : Int32) : up_admit (z2 B 27 0 0) d k 27 0 = 0 := t27_0 B
theorem t27_course (B : mB) (its sk days : Int32) : up_course (z2 B 27 0 0) its sk days 27 0 = 0 := t27_0 B
theorem t27_offence (B : mB) (its days : Int32) : up_offence (z2 B 27 0 0) its days 27 0 = 0 := t27_0 B
theorem t27_appeal (B : mB) (its which : Int32) : up_appeal (z2 B 27 0 0) its which 27 0 = 0 := by
  unfold up_appeal; split
  · exact t27_0 B
  · exact t27_0 B
theorem t27_setTools (B : mB) (k n : Int32) : up_setTools (z2 B 27 0 0) k n 27 0 = 0 := t27_0 B
theorem t27_addOrder (B : mB) (s k w g : Int32) : up_addOrder (z2 B 27 0 0) s k w g 27 0 = 0 := t27_0 B
theorem t27_assign (B : mB) (its o : Int32) : up_assign (z2 B 27 0 0) its o 27 0 = 0 := t27_0 B
theorem t27_takeOff (B : mB) (its : Int32) : up_takeOff (z2 B 27 0 0) its 27 0 = 0 := t27_0 B
theorem t27_buy (B : mB) (its a : Int32) : up_buy (z2 B 27 0 0) its a 27 0 = 0 := t27_0 B
theorem s27_work (X : mB) (i : Nat) : sWork X i 27 = X 27 := by unfold sWork; split <;> rfl
theorem s27_go (X : mB) (i : Nat) : sGo X i 27 = X 27 := by
  unfold sGo; split
  · split <;> rfl
  · rfl
theorem s27_works (X : mB) : ∀ k, sWorks X k 27 = X 27
  | 0 => rfl
  | k + 1 => (s27_work _ k).trans (s27_works X k)
theorem s27_leaves (X : mB) : ∀ k, sLeaves X k 27 = X 27
  | 0 => rfl
  | k + 1 => s27_leaves X k
theorem s27_goes (X : mB) : ∀ k, sGoes X k 27 = X 27
  | 0 => rfl
  | k + 1 => (s27_go _ k).trans (s27_goes X k)
theorem s27_day (X : mB) : sDay X 27 = X 27 := (s27_goes (sMorn X) (nP X)).trans ((s27_leaves (sWorks X (nP X)) (nP X)).trans (s27_works X (nP X)))
theorem s27_days (X : mB) : ∀ k, sDays X k 27 = X 27
  | 0 => rfl
  | k + 1 => (s27_day _).trans (s27_days X k)
theorem t27_pass (B : mB) (d : Int32) : up_pass (z2 B 27 0 0) d 27 0 = 0 := (congrFun (s27_days (z2 B 27 0 0) (ix d)) 0).trans (t27_0 B)
/-! frames -/
theorem mRep_g {w u : zW} {y : Nat} {r : Nat → Nat} {B : mB} (h : mRep w y r B) (g : gFr w u) : mRep u y r B := by
  obtain ⟨h1, h2, h3, h4⟩ := h
  obtain ⟨b1, b2, b3, b4, b5⟩ := g y (Or.inl h1)
  refine ⟨b1.trans h1, fun f hf => (b4 _).trans (h2 f hf), fun f hf => ?_, h4⟩
  obtain ⟨q1, q2, q3, q4⟩ := h3 f hf
  obtain ⟨a1, a2, a3, a4, a5⟩ := g (r f) (by rw [q2]; rcases mKd_89 f with h | h <;> omega)
  exact ⟨(b5 _).trans q1, a1.trans q2, a2.trans q3, a3.trans q4⟩
theorem ra_mFr {w w' : zW} {x : Nat} {ad : Nat → Nat → Nat} {B : mB} (h : rAll w x ad B) (o : mFr w w') : rAll w' x ad B := by
  obtain ⟨⟨⟨k_x, i503, i504, i505⟩, ⟨p500, p501, p502⟩, k_A, n_A, k_O, n_O, k_T, n_T⟩, ⟨qA, qO, qT⟩, hT, hPk, ⟨h200, h201, h202, h203, h204, h205, h206, h208, h209, h212, h213⟩, hPo, ⟨h301, h302, h303, hAc⟩, ⟨hOq, hOf⟩, hOr, hInj⟩ := h
  obtain ⟨oK, oP, oN, oQ, oJ, oI, oR⟩ := o
  have I0 : ∀ {g : Nat} {G : Nat → Int32} {a : Nat → Nat}, g < 600 → (∀ i, i < nP B → zI w g (a i) = G i) → ∀ i, i < nP B → zI w' g (a i) = G i := fun hg hh i hi => (oI _ _ hg).trans (hh i hi)
  refine ⟨⟨⟨(oK x).trans k_x, (oI 503 x (by decide)).trans i503, (oI 504 x (by decide)).trans i504, (oI 505 x (by decide)).trans i505⟩, ⟨(oP 500 x).trans p500, (oP 501 x).trans p501, (oP 502 x).trans p502⟩, (oK _).trans k_A, (oN _).trans n_A, (oK _).trans k_O, (oN _).trans n_O, (oK _).trans k_T, (oN _).trans n_T⟩,
    ⟨fun i hi => (congrFun (oQ _) i).trans (qA i hi), fun i hi => (congrFun (oQ _) i).trans (qO i hi), fun i hi => (congrFun (oQ _) i).trans (qT i hi)⟩,
    fun k hk => ⟨(oK _).trans (hT k hk).1, (oI 400 _ (by decide)).trans (hT k hk).2.1, (oI 401 _ (by decide)).trans (hT k hk).2.2⟩,
    fun i hi => ?_, ⟨I0 (by decide) h200, I0 (by decide) h201, I0 (by decide) h202, I0 (by decide) h203, I0 (by decide) h204, I0 (by decide) h205, I0 (by decide) h206, I0 (by decide) h208, I0 (by decide) h209, I0 (by decide) h212, I0 (by decide) h213⟩,
    fun i hi => (oP _ _).trans (hPo i hi), ⟨I0 (by decide) h301, I0 (by decide) h302, I0 (by decide) h303, fun i hi j hj => ?_⟩,
    ⟨fun i hi k hk => (congrFun (oQ _) k).trans (hOq i hi k hk), fun i hi k hk => ?_⟩, fun j hj => ?_, hInj⟩
  · obtain ⟨a1, a2, a3, a4, a5, a6, a7, a8, a9⟩ := hPk i hi
    exact ⟨(oK _).trans a1, (oP _ _).trans a2, (oP _ _).trans a3, (oK _).trans a4, (oN _).trans a5, (oK _).trans a6, (oP _ _).trans a7, (oK _).trans a8, (oN _).trans a9⟩
  · have k8 := (hPk i hi).2.2.2.2.2.2.2.1
    exact (congrFun (oR _ (by rw [k8]; decide) (by rw [k8]; decide)) j).trans (hAc i hi j hj)
  · obtain ⟨a1, a2, a3, a4, a5⟩ := hOf i hi k hk
    exact ⟨(oK _).trans a1, (oI 0 _ (by decide)).trans a2, (oI 1 _ (by decide)).trans a3, (oI 2 _ (by decide)).trans a4, (oI 3 _ (by decide)).trans a5⟩
  · obtain ⟨a1, a2, a3, a4, a5, a6, a7⟩ := hOr j hj
    exact ⟨(oK _).trans a1, (oI 100 _ (by decide)).trans a2, (oI 101 _ (by decide)).trans a3, (oP _ _).trans a4, (oI 103 _ (by decide)).trans a5, (oI 104 _ (by decide)).trans a6, (oI 105 _ (by decide)).trans a7⟩
theorem Rep_mFr {w w' : zW} {x : Nat} {B : mB} (h : Rep w x B) (o : mFr w w') : Rep w' x B := by
  obtain ⟨ad, h⟩ := h; exact ⟨ad, ra_mFr h o⟩
/-- the two objects and the law's row, at one state -/
def LI (w : zW) (x y o9 : Nat) (r : Nat → Nat) (B : mB) : Prop := Rep w x B ∧ mRep w y r B ∧ mJ B ∧ zK w o9 = 14 ∧ zN w o9 = 1
theorem Rep_27 {w : zW} {x : Nat} {B : mB} (h : Rep w x B) (v : Int32) : Rep w x (z2 B 27 0 v) := by
  obtain ⟨ad, hO, hRw, hT, hPk, hPi, hPo, hPu, hOf, hOr, hInj⟩ := h
  exact ⟨ad, hO, hRw, fun k hk => ⟨(hT k hk).1, (hT k hk).2.1, (hT k hk).2.2.trans (sOut_z2 (by decide) (by decide) _ _).symm⟩, hPk, ⟨hPi.1, hPi.2.1, hPi.2.2.1, hPi.2.2.2.1, hPi.2.2.2.2.1, hPi.2.2.2.2.2.1, hPi.2.2.2.2.2.2.1, hPi.2.2.2.2.2.2.2.1, fun n hn => (hPi.2.2.2.2.2.2.2.2.1 n hn).trans (sLoss_z2 (by decide) (by decide) (by decide) _).symm, hPi.2.2.2.2.2.2.2.2.2⟩, hPo, hPu, hOf, fun j hj => ⟨(hOr j hj).1, (hOr j hj).2.1, (hOr j hj).2.2.1, (hOr j hj).2.2.2.1, (hOr j hj).2.2.2.2.1, (hOr j hj).2.2.2.2.2.1, (hOr j hj).2.2.2.2.2.2.trans (sOn_z2 (by decide) _ _).symm⟩, hInj⟩
theorem mJ_27 {B : mB} (h : mJ B) (v : Int32) : mJ (z2 B 27 0 v) := h
theorem lg_self (a : Int64) : lg_cmp a a = 0 := by
  unfold lg_cmp
  rw [if_neg (by rw [gt_iff_lt, Int64.lt_iff_toInt_lt]; omega), if_pos rfl]
theorem law_in {k j L : Nat} (hk : k + 5 ≤ L) (hL : L ≤ 2560) (hj : j < 5) : vp_in (nI k + nI j) L := by
  rw [nI_add]; exact vp_in_nI (by omega) (by omega)
