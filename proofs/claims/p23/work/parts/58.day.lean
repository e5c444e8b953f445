theorem had_put {F B : mB} {k j : Nat} (hV : ∀ j', j' < j → F 6 (4 * k + j') = B 14 (4 * k + j')) : ∀ j', j' < j + 1 → z2 F 6 (4 * k + j) (B 14 (4 * k + j)) 6 (4 * k + j') = B 14 (4 * k + j') := by
  intro j' h
  by_cases e : j' = j
  · subst e; exact z2_same _ _ _ _
  · rw [z2_ne2 _ _ _ _ (by omega : 4 * k + j' ≠ 4 * k + j)]; exact hV j' (by omega)
theorem had_old {F X : mB} {k j : Nat} {v : Int32} (hW : ∀ i, i < k → ∀ j', j' < 4 → F 6 (4 * i + j') = X 14 (4 * i + j')) (hj : j < 4) : ∀ i, i < k → ∀ j', j' < 4 → z2 F 6 (4 * k + j) v 6 (4 * i + j') = X 14 (4 * i + j') := by
  intro i hi j' hj'
  rw [z2_ne2 _ _ _ _ (by omega : 4 * i + j' ≠ 4 * k + j)]; exact hW i hi j' hj'
theorem had_all {F B : mB} {k : Nat} (hW : ∀ i, i < k → ∀ j, j < 4 → F 6 (4 * i + j) = sWorks B k 14 (4 * i + j)) (hV : ∀ j, j < 4 → F 6 (4 * k + j) = B 14 (4 * k + j)) : ∀ i, i < k + 1 → ∀ j, j < 4 → F 6 (4 * i + j) = sWorks B k 14 (4 * i + j) := by
  intro i hi j hj
  by_cases e : i = k
  · subst e; rw [works_ne hj i (Nat.le_refl _)]; exact hV j hj
  · exact hW i (by omega) j hj
theorem had_work {X F : mB} {k g : Nat} (h : ∀ i, i < k + 1 → ∀ j, j < 4 → F 6 (4 * i + j) = X 14 (4 * i + j)) (hon : ¬ X 11 k = -1) (hz : ¬ X 25 (ox X k) = 0) (hg : g < 130) (hw : X 26 (ox X k) = nI g) : ∀ i, i < k + 1 → ∀ j, j < 4 → z2 (z2 (z2 (z2 F 6 (4 * k) (F 6 (4 * k) + nI ((3 * g) / 10))) 6 (4 * k + 1) (F 6 (4 * k + 1) + nI (g / 5))) 6 (4 * k + 2) (F 6 (4 * k + 2) + nI ((3 * g) / 10))) 6 (4 * k + 3) (F 6 (4 * k + 3) + ((nI g - nI (g / 5)) - nI (2 * ((3 * g) / 10)))) 6 (4 * i + j) = sWork X k 14 (4 * i + j) := by
  intro i hi j hj
  by_cases e : i = k
  · subst e
    rw [work_acc hon hz hg hw j hj, ← h i hi j hj, w_rest2 hg]
    rcases (show j = 0 ∨ j = 1 ∨ j = 2 ∨ j = 3 by omega) with rfl | rfl | rfl | rfl <;> simp [z2_ap, wq]
  · rw [work_ne e hj, ← h i hi j hj]
    (try simp only [z2_ap, Nat.reduceEqDiff, true_and, false_and, if_false, ↓reduceIte]) <;> (repeat' split) <;> first | (exfalso; omega) | assumption | rfl | grind
theorem paid_put {F X : mB} {k : Nat} {v : Int32} (hP : ∀ i, i < k → F 5 i = X 13 i) (hv : v = X 13 k) : ∀ i, i < k + 1 → z2 F 5 k v 5 i = X 13 i := by
  intro i hi
  by_cases e : i = k
  · subst e; rw [z2_same]; exact hv
  · rw [z2_ne2 _ _ _ _ e]; exact hP i (by omega)
theorem paid_go {F X : mB} {k : Nat} {v : Int32} (hP : ∀ i, i < k → F 5 i = X 13 i) (hv : v = sGo X k 13 k) : ∀ i, i < k + 1 → z2 F 5 k v 5 i = sGo X k 13 i := by
  intro i hi
  by_cases e : i = k
  · subst e; rw [z2_same]; exact hv
  · rw [z2_ne2 _ _ _ _ e, go_ne13 e]; exact hP i (by omega)
theorem had_go {F X : mB} {k n : Nat} (h : ∀ i, i < n → ∀ j, j < 4 → F 6 (4 * i + j) = X 14 (4 * i + j)) (h2 : X 2 k = 0) (hd : sRel X k ≤ X 0 0) : ∀ i, i < n → ∀ j, j < 4 → z2 (z2 F 6 (4 * k + 2) 0) 6 (4 * k + 3) 0 6 (4 * i + j) = sGo X k 14 (4 * i + j) := by
  intro i hi j hj
  have hh := h i hi j hj
  by_cases e : i = k
  · subst e
    obtain ⟨y1, y2, y3, y4, y5, y6⟩ := go_yes h2 hd
    rcases (show j = 0 ∨ j = 1 ∨ j = 2 ∨ j = 3 by omega) with rfl | rfl | rfl | rfl
    · rw [show 4 * i + 0 = 4 * i from rfl] at hh ⊢
      rw [y2, ← hh]; (try simp only [z2_ap, Nat.reduceEqDiff, true_and, false_and, if_false, ↓reduceIte]) <;> (repeat' split) <;> first | (exfalso; omega) | assumption | rfl | grind
    · rw [y3, ← hh]; (try simp only [z2_ap, Nat.reduceEqDiff, true_and, false_and, if_false, ↓reduceIte]) <;> (repeat' split) <;> first | (exfalso; omega) | assumption | rfl | grind
    · rw [y4]; (try simp only [z2_ap, Nat.reduceEqDiff, true_and, false_and, if_false, ↓reduceIte]) <;> (repeat' split) <;> first | (exfalso; omega) | assumption | rfl | grind
    · rw [y5]; (try simp only [z2_ap, Nat.reduceEqDiff, true_and, false_and, if_false, ↓reduceIte]) <;> (repeat' split) <;> first | (exfalso; omega) | assumption | rfl | grind
  · rw [go_ne14 e hj, ← hh]
    (try simp only [z2_ap, Nat.reduceEqDiff, true_and, false_and, if_false, ↓reduceIte]) <;> (repeat' split) <;> first | (exfalso; omega) | assumption | rfl | grind
theorem morn_14 {B : mB} : sMorn B 14 = sWorks B (nP B) 14 := leaves_f 14 (by decide) _
set_option maxHeartbeats 8000000 in
set_option maxRecDepth 100000 in
theorem zl_isDay (l : Launch) (hl9 : l.stackTraces = false) (D : va_G) (cy : Nat → ClassId) (base x : Nat) (r : Nat → Nat) (B A : mB) {N : Nat} (hE : JE B A) (hY : JX N B) (hN : N ≤ 600) : Met l yL_isDay wsL_isDay ({ frames := 8, cells := 320, slots := 3600, locals := 135 }) (zPc D cy base (lH D cy base x r 5) [.ref x, .ref (r 0), .ref (r 1), .ref (r 4)] (B, A)) (zQi base (lH D cy base x r 5) (fun (r0 : Int32) (u0 : lU) => r0 = 1 ∧ JE u0.1 u0.2 ∧ JX (N + 1) u0.1)) 320 3600 (fun q => base ≤ q) := by
  refine Met.ofW (cc := cL_isDay) (maxL := 10) (ret := (some .boolean)) (by decide) rfl ?_
  intro p e s m args below meth c s₁ B9 hml hv
  obtain ⟨rfl, hA, hH⟩ := hv
  have hx := B9.exec
  have hb := B9.bytes
  have hr := B9.returns
  have hts := atoms_spec (ws := wsL_isDay) B9.pre
  have hown : s.vm.findClass RL = some m.cls := findClass_of_methodNamed B9.named
  have hlocks := B9.notSynchronized
  have hS : va_S (fun q : Nat => base ≤ q) s.heap s.heap [] := va_S.rf
  have hl := lv_entry ([.ref x, .ref (r 0), .ref (r 1), .ref (r 4)]) (n := 10) (Nat.le_of_ble_eq_true rfl)
  rw [lg_entry_eq]
  generalize (lg_sl ([.ref x, .ref (r 0), .ref (r 1), .ref (r 4)]) ++ List.replicate (10 - (lg_sl ([.ref x, .ref (r 0), .ref (r 1), .ref (r 4)])).length) Slot.unset).toArray = ls at hl ⊢
  have hl : lv_has ls 10 [(0, .ref x), (1, .ref (r 0)), (2, .ref (r 1)), (3, .ref (r 4))] := hl
  have hJ := lH_J hH
  have hn6 : nP B ≤ 6 := hE.1.1
  have hn8 : nO B ≤ 8 := hJ.1.2.1.1
  obtain ⟨A0, hA0⟩ : ∃ A0 : mB, A0 = fun f => if f < 5 then A f else fun _ => 0 := ⟨_, rfl⟩
  have e0 : ∀ f, f < 5 → A0 f = A f := fun f hf => by rw [hA0]; exact if_pos hf
  have zz5 : A0 5 = fun _ => 0 := by rw [hA0]; rfl
  have zz6 : A0 6 = fun _ => 0 := by rw [hA0]; rfl
  have hH := lH_rows hH e0
  have hE := JE_row hE e0
  refine lv_bipush (v := 6) hx hb dL_isDay_0 (by decide) ?_
  have hl9_5 : lLen (5) = 6 := rfl
  refine l_newa (v := 6) hx hb (hts (.arrayClass .int) (by decide +kernel)) hA hH hS zz5 (by decide) (by decide) (by show _ ≤ (320 : Nat); omega) (by show _ ≤ (3600 : Nat); omega) dL_isDay_2 (fun r6 H hr6 hH hS => ?_)
  rw [← hr6 0 (by decide), ← hr6 1 (by decide), ← hr6 4 (by decide)] at hl
  refine lv_astore (lv' := [(4, .ref (r6 5)), (0, .ref x), (1, .ref (r6 0)), (2, .ref (r6 1)), (3, .ref (r6 4))]) hx hb dL_isDay_4 hl (by decide) rfl (fun ls hl => ?_)
  refine lv_bipush (v := 24) hx hb dL_isDay_6 (by decide) ?_
  have hl9_6 : lLen (5 + 1) = 24 := rfl
  refine l_newa (v := 24) hx hb (hts (.arrayClass .int) (by decide +kernel)) hA hH hS zz6 (by decide) (by decide) (by show _ ≤ (320 : Nat); omega) (by show _ ≤ (3600 : Nat); omega) dL_isDay_8 (fun r7 H hr7 hH hS => ?_)
  rw [← hr7 0 (by decide), ← hr7 1 (by decide), ← hr7 4 (by decide), ← hr7 5 (by decide)] at hl
  refine lv_astore (lv' := [(5, .ref (r7 6)), (4, .ref (r7 5)), (0, .ref x), (1, .ref (r7 0)), (2, .ref (r7 1)), (3, .ref (r7 4))]) hx hb dL_isDay_10 hl (by decide) rfl (fun ls hl => ?_)
  refine lv_iconst (v := 0) hx hb dL_isDay_12 (by decide) ?_
  refine lv_istore (lv' := [(6, .int 0), (5, .ref (r7 6)), (4, .ref (r7 5)), (0, .ref x), (1, .ref (r7 0)), (2, .ref (r7 1)), (3, .ref (r7 4))]) hx hb dL_isDay_13 hl (by decide) rfl (fun ls hl => ?_)
  have hl_1 : lv_has ls 10 [(0, .ref x), (1, .ref (r7 0)), (2, .ref (r7 1)), (3, .ref (r7 4)), (4, .ref (r7 5)), (5, .ref (r7 6)), (6, .int 0)] := lv_sub hl [3, 4, 5, 6, 2, 1, 0] rfl
  have hl_1 : lv_has ls 10 [(0, .ref x), (1, .ref (r7 0)), (2, .ref (r7 1)), (3, .ref (r7 4)), (4, .ref (r7 5)), (5, .ref (r7 6)), (6, .int (nI 0))] := hl_1
  refine z_forc (S := lU) (nL := 10) (nP B) (fun k u => ∃ A1 : mB, u = (B, A1) ∧ JE (sWorks B k) A1 ∧ (∀ i, i < k → ∀ j, j < 4 → A1 6 (4 * i + j) = sWorks B k 14 (4 * i + j))) (fun k _ => [(0, .ref x), (1, .ref (r7 0)), (2, .ref (r7 1)), (3, .ref (r7 4)), (4, .ref (r7 5)), (5, .ref (r7 6)), (6, .int (nI k))]) _ 24 _ 280 (⟨A0, rfl, hE, fun i hi => absurd hi (Nat.not_lt_zero i)⟩) hH hS hl_1 (Nat.le_refl _) (Nat.le_refl _) ?_ ?_
  · intro u H locs ls hI hH hS hl
    obtain ⟨A1, rfl, hE1, hW1⟩ := hI
    have hms := mInv_same hJ.1 (sWorks_same B (nP B))
    refine lv_iload hx hb dL_isDay_15 (lv_at hl 6 rfl) ?_
    refine lv_aload_n hx hb dL_isDay_17 rfl (lv_at hl 3 rfl) ?_
    refine lv_iconst (v := 1) hx hb dL_isDay_18 (by decide) ?_
    refine l_iald (f := 4) (v := (nI (nP B))) (by omega) hx hb hA hH 1 rfl (by rw [show lLen 4 = 3 from rfl]; omega) (hE1.1.2.2.1.trans (congrArg nI hms.2.1)) dL_isDay_19 ?_
    refine lv_icmp_ge (tgt := 206) hx hb dL_isDay_20 (by decide) (fun _ => ?_) (fun c_2 => absurd ((nI_leI (a := nP B) (b := nP B) (by omega) (by omega)).mpr (by omega)) c_2)
    refine lv_iconst (v := 0) hx hb dL_isDay_206 (by decide) ?_
    refine lv_istore (lv' := [(6, .int 0), (0, .ref x), (1, .ref (r7 0)), (2, .ref (r7 1)), (3, .ref (r7 4)), (4, .ref (r7 5)), (5, .ref (r7 6))]) hx hb dL_isDay_207 hl (by decide) rfl (fun ls hl => ?_)
    have hl_3 : lv_has ls 10 [(0, .ref x), (1, .ref (r7 0)), (2, .ref (r7 1)), (3, .ref (r7 4)), (4, .ref (r7 5)), (5, .ref (r7 6)), (6, .int 0)] := lv_sub hl [1, 2, 3, 4, 5, 6, 0] rfl
    have hl_3 : lv_has ls 10 [(0, .ref x), (1, .ref (r7 0)), (2, .ref (r7 1)), (3, .ref (r7 4)), (4, .ref (r7 5)), (5, .ref (r7 6)), (6, .int (nI 0))] := hl_3
    refine z_forc (S := lU) (nL := 10) (nP B) (fun k u => ∃ A2 : mB, u = (B, A2) ∧ JE (sLeaves (sWorks B (nP B)) k) A2 ∧ (∀ i, i < nP B → ∀ j, j < 4 → A2 6 (4 * i + j) = sWorks B (nP B) 14 (4 * i + j))) (fun k _ => [(0, .ref x), (1, .ref (r7 0)), (2, .ref (r7 1)), (3, .ref (r7 4)), (4, .ref (r7 5)), (5, .ref (r7 6)), (6, .int (nI k))]) _ 0 _ 0 (⟨A1, rfl, hE1, hW1⟩) hH hS hl_3 (Nat.le_refl _) (Nat.le_refl _) ?_ ?_
    · intro u H locs ls hI hH hS hl
      obtain ⟨A2, rfl, hE2, hW2⟩ := hI
      have hms := mInv_same hJ.1 (mSame_tr (sWorks_same B (nP B)) (sLeaves_same (sWorks B (nP B)) (nP B)))
      refine lv_iload hx hb dL_isDay_209 (lv_at hl 6 rfl) ?_
      refine lv_aload_n hx hb dL_isDay_211 rfl (lv_at hl 3 rfl) ?_
      refine lv_iconst (v := 1) hx hb dL_isDay_212 (by decide) ?_
      refine l_iald (f := 4) (v := (nI (nP B))) (by omega) hx hb hA hH 1 rfl (by rw [show lLen 4 = 3 from rfl]; omega) (hE2.1.2.2.1.trans (congrArg nI hms.2.1)) dL_isDay_213 ?_
      refine lv_icmp_ge (tgt := 275) hx hb dL_isDay_214 (by decide) (fun _ => ?_) (fun c_4 => absurd ((nI_leI (a := nP B) (b := nP B) (by omega) (by omega)).mpr (by omega)) c_4)
      refine lv_aload_n hx hb dL_isDay_275 rfl (lv_at hl 3 rfl) ?_
      refine lv_iconst (v := 0) hx hb dL_isDay_276 (by decide) ?_
      refine lv_dup2_11 hx hb dL_isDay_277 rfl rfl ?_
      refine l_iald (f := 4) (v := ((sLeaves (sWorks B (nP B)) (nP B)) 0 0)) (by omega) hx hb hA hH 0 rfl (by rw [show lLen 4 = 3 from rfl]; omega) hE2.1.2.1 dL_isDay_278 ?_
      refine lv_iconst (v := 1) hx hb dL_isDay_279 (by decide) ?_
      refine lv_iadd hx hb dL_isDay_280 ?_
      refine l_iast (f := 4) (by omega) hx hb hA hH hS 0 rfl (by rw [show lLen 4 = 3 from rfl]; omega) dL_isDay_281 (fun H locs hH hS => ?_)
      have hE3 : JE (sMorn B) (z2 A2 4 0 (((sLeaves (sWorks B (nP B)) (nP B)) 0 0) + 1)) := JE_tick hE2
      obtain ⟨A3, hA3⟩ : ∃ A3 : mB, A3 = (z2 A2 4 0 (((sLeaves (sWorks B (nP B)) (nP B)) 0 0) + 1)) := ⟨_, rfl⟩
      have hW3 : ∀ i, i < nP B → ∀ j, j < 4 → A3 6 (4 * i + j) = sMorn B 14 (4 * i + j) := fun i hi j hj => by rw [hA3]; exact (hW2 i hi j hj).trans (congrFun (morn_14 (B := B)) _).symm
      rw [← hA3] at hH hE3
      have hmo := mInv_same hJ.1 (sMorn_same B)
      refine lv_iconst (v := 0) hx hb dL_isDay_282 (by decide) ?_
      refine lv_istore (lv' := [(6, .int 0), (0, .ref x), (1, .ref (r7 0)), (2, .ref (r7 1)), (3, .ref (r7 4)), (4, .ref (r7 5)), (5, .ref (r7 6))]) hx hb dL_isDay_283 hl (by decide) rfl (fun ls hl => ?_)
      refine lv_iconst (v := 0) hx hb dL_isDay_285 (by decide) ?_
      refine lv_istore (lv' := [(7, .int 0), (6, .int 0), (0, .ref x), (1, .ref (r7 0)), (2, .ref (r7 1)), (3, .ref (r7 4)), (4, .ref (r7 5)), (5, .ref (r7 6))]) hx hb dL_isDay_286 hl (by decide) rfl (fun ls hl => ?_)
      have hl_5 : lv_has ls 10 [(0, .ref x), (1, .ref (r7 0)), (2, .ref (r7 1)), (3, .ref (r7 4)), (4, .ref (r7 5)), (5, .ref (r7 6)), (6, .int 0), (7, .int 0)] := lv_sub hl [2, 3, 4, 5, 6, 7, 1, 0] rfl
      have hl_5 : lv_has ls 10 [(0, .ref x), (1, .ref (r7 0)), (2, .ref (r7 1)), (3, .ref (r7 4)), (4, .ref (r7 5)), (5, .ref (r7 6)), (6, .int (sGoesN (sMorn B) 0 0)), (7, .int (nI 0))] := hl_5
      refine z_forc (S := lU) (nL := 10) (nP B) (fun k u => ∃ A4 : mB, u = (B, A4) ∧ JE (sGoes (sMorn B) k) A4 ∧ (∀ i, i < nP B → ∀ j, j < 4 → A4 6 (4 * i + j) = (sGoes (sMorn B) k) 14 (4 * i + j)) ∧ (∀ i, i < k → A4 5 i = (sGoes (sMorn B) k) 13 i)) (fun k _ => [(0, .ref x), (1, .ref (r7 0)), (2, .ref (r7 1)), (3, .ref (r7 4)), (4, .ref (r7 5)), (5, .ref (r7 6)), (6, .int (sGoesN (sMorn B) 0 k)), (7, .int (nI k))]) _ 1 _ 6 (⟨A3, rfl, hE3, hW3, fun i hi => absurd hi (Nat.not_lt_zero i)⟩) hH hS hl_5 (Nat.le_refl _) (Nat.le_refl _) ?_ ?_
      · intro u H locs ls hI hH hS hl
        obtain ⟨A4, rfl, hE4, hW4, hP4⟩ := hI
        have hms := mInv_same hJ.1 (mSame_tr (sMorn_same B) (sGoes_same (sMorn B) (nP B)))
        refine lv_iload hx hb dL_isDay_288 (lv_at hl 7 rfl) ?_
        refine lv_aload_n hx hb dL_isDay_290 rfl (lv_at hl 3 rfl) ?_
        refine lv_iconst (v := 1) hx hb dL_isDay_291 (by decide) ?_
        refine l_iald (f := 4) (v := (nI (nP B))) (by omega) hx hb hA hH 1 rfl (by rw [show lLen 4 = 3 from rfl]; omega) (hE4.1.2.2.1.trans (congrArg nI hms.2.1)) dL_isDay_292 ?_
        refine lv_icmp_ge (tgt := 416) hx hb dL_isDay_293 (by decide) (fun _ => ?_) (fun c_6 => absurd ((nI_leI (a := nP B) (b := nP B) (by omega) (by omega)).mpr (by omega)) c_6)
        refine lv_aload_n hx hb dL_isDay_416 rfl (lv_at hl 0 rfl) ?_
        refine lv_iconst (v := 1) hx hb dL_isDay_417 (by decide) ?_
        refine z_calli (va_runV (As := [.int 1]) (rest := []) ⟨hx, hb, hml, hown, hts⟩ (cq_pass l hl9 D cy base x r7 7 B A4) (cwV 1 hts gL_isDay_X5_pass rfl rfl rfl (by decide +kernel) ⟨Nat.le_of_ble_eq_true rfl, Nat.le_of_ble_eq_true rfl⟩) (z_preV hA hS hH (l_recv hA hH)) rfl rfl hl.1 rfl (lv_room (Nat.le_of_ble_eq_true rfl)) dL_isDay_418 ⟨(by show _ ≤ (320 : Nat); omega), (by show _ ≤ (3600 : Nat); omega)⟩) hS (fun r_k_7 u_k_7 H locs hw_k_7 hH hz_k_7 hS => ?_)
        obtain ⟨rfl, hu_k_7⟩ := hw_k_7
        rw [hu_k_7] at hH
        have hJ2 := lH_J hH
        have hE5 : JE (sDay B) A4 := hE4
        have hnD : nP (sDay B) = nP B := hms.2.1
        refine lv_iload hx hb dL_isDay_421 (lv_at hl 6 rfl) ?_
        refine lv_icmp_ne (tgt := 430) hx hb dL_isDay_423 (by decide) (fun c9 => absurd rfl c9) (fun _ => ?_)
        refine lv_iconst (v := 1) hx hb dL_isDay_426 (by decide) ?_
        refine lv_goto (tgt := 431) hx hb dL_isDay_427 (by decide) ?_
        refine lv_istore (lv' := [(7, .int 1), (0, .ref x), (1, .ref (r7 0)), (2, .ref (r7 1)), (3, .ref (r7 4)), (4, .ref (r7 5)), (5, .ref (r7 6)), (6, .int (sGoesN (sMorn B) 0 (nP B)))]) hx hb dL_isDay_431 hl (by decide) rfl (fun ls hl => ?_)
        refine lv_iconst (v := 0) hx hb dL_isDay_433 (by decide) ?_
        refine lv_istore (lv' := [(8, .int 0), (7, .int 1), (0, .ref x), (1, .ref (r7 0)), (2, .ref (r7 1)), (3, .ref (r7 4)), (4, .ref (r7 5)), (5, .ref (r7 6)), (6, .int (sGoesN (sMorn B) 0 (nP B)))]) hx hb dL_isDay_434 hl (by decide) rfl (fun ls hl => ?_)
        have hl_8 : lv_has ls 10 [(0, .ref x), (1, .ref (r7 0)), (2, .ref (r7 1)), (3, .ref (r7 4)), (4, .ref (r7 5)), (5, .ref (r7 6)), (7, .int 1), (8, .int 0)] := lv_sub hl [2, 3, 4, 5, 6, 7, 1, 0] rfl
        have hl_8 : lv_has ls 10 [(0, .ref x), (1, .ref (r7 0)), (2, .ref (r7 1)), (3, .ref (r7 4)), (4, .ref (r7 5)), (5, .ref (r7 6)), (7, .int 1), (8, .int (nI 0))] := hl_8
        refine z_forc (S := lU) (nL := 10) (nP B) (fun k u => u = (sDay B, A4)) (fun k _ => [(0, .ref x), (1, .ref (r7 0)), (2, .ref (r7 1)), (3, .ref (r7 4)), (4, .ref (r7 5)), (5, .ref (r7 6)), (7, .int 1), (8, .int (nI k))]) _ 25 _ 286 (rfl) hH hS hl_8 (Nat.le_refl _) (Nat.le_refl _) ?_ ?_
        · intro u H locs ls hI hH hS hl
          subst hI
          refine lv_iload hx hb dL_isDay_436 (lv_at hl 7 rfl) ?_
          refine lv_aload_n hx hb dL_isDay_438 rfl (lv_at hl 3 rfl) ?_
          refine lv_iconst (v := 1) hx hb dL_isDay_439 (by decide) ?_
          refine l_iald (f := 4) (v := (nI (nP B))) (by omega) hx hb hA hH 1 rfl (by rw [show lLen 4 = 3 from rfl]; omega) (hE5.1.2.2.1.trans (congrArg nI hnD)) dL_isDay_440 ?_
          refine lv_icmp_ge (tgt := 524) hx hb dL_isDay_441 (by decide) (fun _ => ?_) (fun c_9 => absurd ((nI_leI (a := nP B) (b := nP B) (by omega) (by omega)).mpr (by omega)) c_9)
          refine lv_iload hx hb dL_isDay_524 (lv_at hl 6 rfl) ?_
          have hH := lH_cut (r' := r) (n' := 5) hH (by decide) (fun f hf => ((hr7 f (by omega)).trans (hr6 f hf)).symm)
          exact z_zret hx hb hr hlocks hH hS rfl (⟨rfl, hE5, JX_day hN hY hJ.1 (fun j hj => (hE.2.2.2.2.1 j hj).2.2.2.2)⟩) (by omega) (by omega) dL_isDay_526
        · intro k hk ihk u H locs ls hI hH hS hl
          subst hI
          have hkD : k < nP (sDay B) := by rw [hnD]; exact hk
          refine lv_iload hx hb dL_isDay_436 (lv_at hl 7 rfl) ?_
          refine lv_aload_n hx hb dL_isDay_438 rfl (lv_at hl 3 rfl) ?_
          refine lv_iconst (v := 1) hx hb dL_isDay_439 (by decide) ?_
          refine l_iald (f := 4) (v := (nI (nP B))) (by omega) hx hb hA hH 1 rfl (by rw [show lLen 4 = 3 from rfl]; omega) (hE5.1.2.2.1.trans (congrArg nI hnD)) dL_isDay_440 ?_
          refine lv_icmp_ge (tgt := 524) hx hb dL_isDay_441 (by decide) (fun c_10 => absurd ((nI_leI (a := nP B) (b := k) (by omega) (by omega)).mp c_10) (by omega)) (fun _ => ?_)
          refine lv_iload hx hb dL_isDay_444 (lv_at hl 6 rfl) ?_
          refine lv_if_eq (tgt := 524) hx hb dL_isDay_446 (by decide) (fun c_11 => absurd c_11 (by decide)) (fun _ => ?_)
          refine lv_aload_n hx hb dL_isDay_449 rfl (lv_at hl 0 rfl) ?_
          refine lv_iload hx hb dL_isDay_450 (lv_at hl 7 rfl) ?_
          refine z_calli (va_runV (As := [.int (nI k)]) (rest := []) ⟨hx, hb, hml, hown, hts⟩ (cq_paidOut l hl9 D cy base x r7 7 (sDay B) A4 hJ2.1 k hkD) (cwV 1 hts gL_isDay_X5_paidOut rfl rfl rfl (by decide +kernel) ⟨Nat.le_of_ble_eq_true rfl, Nat.le_of_ble_eq_true rfl⟩) (z_preV hA hS hH (l_recv hA hH)) rfl rfl hl.1 rfl (lv_room (Nat.le_of_ble_eq_true rfl)) dL_isDay_452 ⟨(by show _ ≤ (320 : Nat); omega), (by show _ ≤ (3600 : Nat); omega)⟩) hS (fun r_k_12 u_k_12 H locs hw_k_12 hH hz_k_12 hS => ?_)
          obtain ⟨rfl, hu_k_12⟩ := hw_k_12
          rw [hu_k_12] at hH
          refine lv_aload hx hb dL_isDay_455 (lv_at hl 4 rfl) ?_
          refine lv_iload hx hb dL_isDay_457 (lv_at hl 7 rfl) ?_
          refine l_iald (f := 5) (v := ((sDay B) 13 k)) (by omega) hx hb hA hH k rfl (by rw [show lLen 5 = 6 from rfl]; omega) (hP4 k hk) dL_isDay_459 ?_
          refine lv_icmp_ne (tgt := 467) hx hb dL_isDay_460 (by decide) (fun c9 => absurd rfl c9) (fun _ => ?_)
          refine lv_iconst (v := 1) hx hb dL_isDay_463 (by decide) ?_
          refine lv_goto (tgt := 468) hx hb dL_isDay_464 (by decide) ?_
          refine lv_istore (lv' := [(7, .int 1), (0, .ref x), (1, .ref (r7 0)), (2, .ref (r7 1)), (3, .ref (r7 4)), (4, .ref (r7 5)), (5, .ref (r7 6)), (8, .int (nI k))]) hx hb dL_isDay_468 hl (by decide) rfl (fun ls hl => ?_)
          refine lv_iconst (v := 0) hx hb dL_isDay_470 (by decide) ?_
          refine lv_istore (lv' := [(9, .int 0), (7, .int 1), (0, .ref x), (1, .ref (r7 0)), (2, .ref (r7 1)), (3, .ref (r7 4)), (4, .ref (r7 5)), (5, .ref (r7 6)), (8, .int (nI k))]) hx hb dL_isDay_471 hl (by decide) rfl (fun ls hl => ?_)
          have hl_13 : lv_has ls 10 [(0, .ref x), (1, .ref (r7 0)), (2, .ref (r7 1)), (3, .ref (r7 4)), (4, .ref (r7 5)), (5, .ref (r7 6)), (7, .int 1), (8, .int (nI k)), (9, .int 0)] := lv_sub hl [2, 3, 4, 5, 6, 7, 1, 8, 0] rfl
          have hl_13 : lv_has ls 10 [(0, .ref x), (1, .ref (r7 0)), (2, .ref (r7 1)), (3, .ref (r7 4)), (4, .ref (r7 5)), (5, .ref (r7 6)), (7, .int 1), (8, .int (nI k)), (9, .int (nI 0))] := hl_13
          refine z_forc (S := lU) (nL := 10) (4) (fun j u => u = (sDay B, A4)) (fun j _ => [(0, .ref x), (1, .ref (r7 0)), (2, .ref (r7 1)), (3, .ref (r7 4)), (4, .ref (r7 5)), (5, .ref (r7 6)), (7, .int 1), (8, .int (nI k)), (9, .int (nI j))]) _ 6 _ 70 (rfl) hH hS hl_13 (Nat.le_refl _) (Nat.le_refl _) ?_ ?_
          · intro u H locs ls hI hH hS hl
            subst hI
            refine lv_iload hx hb dL_isDay_473 (lv_at hl 8 rfl) ?_
            refine lv_iconst (v := 4) hx hb dL_isDay_475 (by decide) ?_
            refine lv_icmp_ge (tgt := 518) hx hb dL_isDay_476 (by decide) (fun _ => ?_) (fun c_14 => absurd ((nI_leI (a := 4) (b := 4) (by omega) (by omega)).mpr (by omega)) c_14)
            refine lv_iinc (v := ((nI k) + 1)) (lv' := [(8, .int ((nI k) + 1)), (0, .ref x), (1, .ref (r7 0)), (2, .ref (r7 1)), (3, .ref (r7 4)), (4, .ref (r7 5)), (5, .ref (r7 6)), (7, .int 1), (9, .int (nI 4))]) hx hb dL_isDay_518 hl (k := 7) rfl rfl (by decide) rfl (fun ls hl => ?_)
            rw [show (((nI k) + 1) : Int32) = (nI (k + 1)) from nI_add k 1] at hl
            refine lv_goto (tgt := 436) hx hb dL_isDay_521 (by decide) ?_
            have hl_15 : lv_has ls 10 [(0, .ref x), (1, .ref (r7 0)), (2, .ref (r7 1)), (3, .ref (r7 4)), (4, .ref (r7 5)), (5, .ref (r7 6)), (7, .int 1), (8, .int (nI (k + 1)))] := lv_sub hl [1, 2, 3, 4, 5, 6, 7, 0] rfl
            have hl_15 : lv_has ls 10 [(0, .ref x), (1, .ref (r7 0)), (2, .ref (r7 1)), (3, .ref (r7 4)), (4, .ref (r7 5)), (5, .ref (r7 6)), (7, .int 1), (8, .int (nI (k + 1)))] := hl_15
            exact ihk _ _ _ _ _ _ (rfl) hH hS hl_15 (by omega) (by omega)
          · intro j hj ihj u H locs ls hI hH hS hl
            subst hI
            refine lv_iload hx hb dL_isDay_473 (lv_at hl 8 rfl) ?_
            refine lv_iconst (v := 4) hx hb dL_isDay_475 (by decide) ?_
            refine lv_icmp_ge (tgt := 518) hx hb dL_isDay_476 (by decide) (fun c_16 => absurd ((nI_leI (a := 4) (b := j) (by omega) (by omega)).mp c_16) (by omega)) (fun _ => ?_)
            refine lv_iload hx hb dL_isDay_479 (lv_at hl 6 rfl) ?_
            refine lv_if_eq (tgt := 518) hx hb dL_isDay_481 (by decide) (fun c_17 => absurd c_17 (by decide)) (fun _ => ?_)
            refine lv_aload_n hx hb dL_isDay_484 rfl (lv_at hl 0 rfl) ?_
            refine lv_iload hx hb dL_isDay_485 (lv_at hl 7 rfl) ?_
            refine lv_iload hx hb dL_isDay_487 (lv_at hl 8 rfl) ?_
            refine z_calli (va_runV (As := [.int (nI k), .int (nI j)]) (rest := []) ⟨hx, hb, hml, hown, hts⟩ (cq_account l hl9 D cy base x r7 7 (sDay B) A4 hJ2.1 k j hkD (by omega)) (cwV 2 hts gL_isDay_X5_account rfl rfl rfl (by decide +kernel) ⟨Nat.le_of_ble_eq_true rfl, Nat.le_of_ble_eq_true rfl⟩) (z_preV hA hS hH (l_recv hA hH)) rfl rfl hl.1 rfl (lv_room (Nat.le_of_ble_eq_true rfl)) dL_isDay_489 ⟨(by show _ ≤ (320 : Nat); omega), (by show _ ≤ (3600 : Nat); omega)⟩) hS (fun r_k_18 u_k_18 H locs hw_k_18 hH hz_k_18 hS => ?_)
            obtain ⟨rfl, hu_k_18⟩ := hw_k_18
            rw [hu_k_18] at hH
            refine lv_aload hx hb dL_isDay_492 (lv_at hl 5 rfl) ?_
            refine lv_iconst (v := 4) hx hb dL_isDay_494 (by decide) ?_
            refine lv_iload hx hb dL_isDay_495 (lv_at hl 7 rfl) ?_
            refine lv_imul hx hb dL_isDay_497 ?_
            refine lv_eqi (pk_mul 4 k) ?_
            refine lv_iload hx hb dL_isDay_498 (lv_at hl 8 rfl) ?_
            refine lv_iadd hx hb dL_isDay_500 ?_
            refine lv_eqi (nI_add (4 * k) j) ?_
            refine l_iald (f := 6) (v := ((sDay B) 14 (4 * k + j))) (by omega) hx hb hA hH (4 * k + j) rfl (by rw [show lLen 6 = 24 from rfl]; omega) (hW4 k hk j hj) dL_isDay_501 ?_
            refine lv_icmp_ne (tgt := 509) hx hb dL_isDay_502 (by decide) (fun c9 => absurd rfl c9) (fun _ => ?_)
            refine lv_iconst (v := 1) hx hb dL_isDay_505 (by decide) ?_
            refine lv_goto (tgt := 510) hx hb dL_isDay_506 (by decide) ?_
            refine lv_istore (lv' := [(7, .int 1), (0, .ref x), (1, .ref (r7 0)), (2, .ref (r7 1)), (3, .ref (r7 4)), (4, .ref (r7 5)), (5, .ref (r7 6)), (8, .int (nI k)), (9, .int (nI j))]) hx hb dL_isDay_510 hl (by decide) rfl (fun ls hl => ?_)
            refine lv_iinc (v := ((nI j) + 1)) (lv' := [(9, .int ((nI j) + 1)), (7, .int 1), (0, .ref x), (1, .ref (r7 0)), (2, .ref (r7 1)), (3, .ref (r7 4)), (4, .ref (r7 5)), (5, .ref (r7 6)), (8, .int (nI k))]) hx hb dL_isDay_512 hl (k := 8) rfl rfl (by decide) rfl (fun ls hl => ?_)
            rw [show (((nI j) + 1) : Int32) = (nI (j + 1)) from nI_add j 1] at hl
            refine lv_goto (tgt := 473) hx hb dL_isDay_515 (by decide) ?_
            have hl_19 : lv_has ls 10 [(0, .ref x), (1, .ref (r7 0)), (2, .ref (r7 1)), (3, .ref (r7 4)), (4, .ref (r7 5)), (5, .ref (r7 6)), (7, .int 1), (8, .int (nI k)), (9, .int (nI (j + 1)))] := lv_sub hl [2, 3, 4, 5, 6, 7, 1, 8, 0] rfl
            have hl_19 : lv_has ls 10 [(0, .ref x), (1, .ref (r7 0)), (2, .ref (r7 1)), (3, .ref (r7 4)), (4, .ref (r7 5)), (5, .ref (r7 6)), (7, .int 1), (8, .int (nI k)), (9, .int (nI (j + 1)))] := hl_19
            exact ihj _ _ _ _ _ _ (rfl) hH hS hl_19 (by omega) (by omega)
      · intro k hk ihk u H locs ls hI hH hS hl
        obtain ⟨A4, rfl, hE4, hW4, hP4⟩ := hI
        have hms := mInv_same hJ.1 (mSame_tr (sMorn_same B) (sGoes_same (sMorn B) k))
        have hkk : k < nP (sGoes (sMorn B) k) := by rw [hms.2.1]; exact hk
        have hp13 : B 13 k = (sGoes (sMorn B) k) 13 k := ((goes_13 k (Nat.le_refl _)).trans (congrFun morn_13 k)).symm
        refine lv_iload hx hb dL_isDay_288 (lv_at hl 7 rfl) ?_
        refine lv_aload_n hx hb dL_isDay_290 rfl (lv_at hl 3 rfl) ?_
        refine lv_iconst (v := 1) hx hb dL_isDay_291 (by decide) ?_
        refine l_iald (f := 4) (v := (nI (nP B))) (by omega) hx hb hA hH 1 rfl (by rw [show lLen 4 = 3 from rfl]; omega) (hE4.1.2.2.1.trans (congrArg nI hms.2.1)) dL_isDay_292 ?_
        refine lv_icmp_ge (tgt := 416) hx hb dL_isDay_293 (by decide) (fun c_20 => absurd ((nI_leI (a := nP B) (b := k) (by omega) (by omega)).mp c_20) (by omega)) (fun _ => ?_)
        refine lv_aload hx hb dL_isDay_296 (lv_at hl 4 rfl) ?_
        refine lv_iload hx hb dL_isDay_298 (lv_at hl 7 rfl) ?_
        refine lv_aload_n hx hb dL_isDay_300 rfl (lv_at hl 0 rfl) ?_
        refine lv_iload hx hb dL_isDay_301 (lv_at hl 7 rfl) ?_
        refine z_calli (va_runV (As := [.int (nI k)]) (rest := [.int (nI k), .ref (r7 5)]) ⟨hx, hb, hml, hown, hts⟩ (cq_paidOut l hl9 D cy base x r7 7 B A4 hJ.1 k hk) (cwV 1 hts gL_isDay_X5_paidOut rfl rfl rfl (by decide +kernel) ⟨Nat.le_of_ble_eq_true rfl, Nat.le_of_ble_eq_true rfl⟩) (z_preV hA hS hH (l_recv hA hH)) rfl rfl hl.1 rfl (lv_room (Nat.le_of_ble_eq_true rfl)) dL_isDay_303 ⟨(by show _ ≤ (320 : Nat); omega), (by show _ ≤ (3600 : Nat); omega)⟩) hS (fun r_k_21 u_k_21 H locs hw_k_21 hH hz_k_21 hS => ?_)
        obtain ⟨rfl, hu_k_21⟩ := hw_k_21
        rw [hu_k_21] at hH
        refine l_iast (f := 5) (by omega) hx hb hA hH hS k rfl (by rw [show lLen 5 = 6 from rfl]; omega) dL_isDay_306 (fun H locs hH hS => ?_)
        refine lv_aload_n hx hb dL_isDay_307 rfl (lv_at hl 1 rfl) ?_
        refine lv_bipush (v := 10) hx hb dL_isDay_308 (by decide) ?_
        refine lv_iload hx hb dL_isDay_310 (lv_at hl 7 rfl) ?_
        refine lv_imul hx hb dL_isDay_312 ?_
        refine lv_eqi (pk_mul 10 k) ?_
        refine lv_iconst (v := 4) hx hb dL_isDay_313 (by decide) ?_
        refine lv_iadd hx hb dL_isDay_314 ?_
        refine lv_eqi (nI_add (10 * k) 4) ?_
        refine l_iald (f := 0) (v := ((sGoes (sMorn B) k) 2 k)) (by omega) hx hb hA hH (10 * k + 4) rfl (by rw [show lLen 0 = 60 from rfl]; omega) (hE4.2.2.1 k (by omega)).1 dL_isDay_315 ?_
        refine lv_if_ne (tgt := 410) hx hb dL_isDay_316 (by decide) (fun c_22 => ?_) (fun c_22 => ?_)
        · have hno := sGo_no (B := (sGoes (sMorn B) k)) (i := k) (Or.inl c_22)
          have hid : sGoes (sMorn B) (k + 1) = (sGoes (sMorn B) k) := hno.1
          refine lv_iinc (v := ((nI k) + 1)) (lv' := [(7, .int ((nI k) + 1)), (0, .ref x), (1, .ref (r7 0)), (2, .ref (r7 1)), (3, .ref (r7 4)), (4, .ref (r7 5)), (5, .ref (r7 6)), (6, .int (sGoesN (sMorn B) 0 k))]) hx hb dL_isDay_410 hl (k := 7) rfl rfl (by decide) rfl (fun ls hl => ?_)
          rw [show (((nI k) + 1) : Int32) = (nI (k + 1)) from nI_add k 1] at hl
          refine lv_goto (tgt := 288) hx hb dL_isDay_413 (by decide) ?_
          have hl_23 : lv_has ls 10 [(0, .ref x), (1, .ref (r7 0)), (2, .ref (r7 1)), (3, .ref (r7 4)), (4, .ref (r7 5)), (5, .ref (r7 6)), (6, .int (sGoesN (sMorn B) 0 k)), (7, .int (nI (k + 1)))] := lv_sub hl [1, 2, 3, 4, 5, 6, 7, 0] rfl
          rw [show ((sGoesN (sMorn B) 0 k) : Int32) = (sGoesN (sMorn B) 0 (k + 1)) from (show sGoesN (sMorn B) 0 k = sGoesN (sMorn B) 0 k + sGoN (sGoes (sMorn B) k) k by rw [hno.2, Int32.add_zero])] at hl_23
          have hl_23 : lv_has ls 10 [(0, .ref x), (1, .ref (r7 0)), (2, .ref (r7 1)), (3, .ref (r7 4)), (4, .ref (r7 5)), (5, .ref (r7 6)), (6, .int (sGoesN (sMorn B) 0 (k + 1))), (7, .int (nI (k + 1)))] := hl_23
          exact ihk _ _ _ _ _ _ (⟨(z2 A4 5 k (B 13 k)), rfl, by rw [hid]; exact JE_row hE4 (fun f hf => z2_ne1 _ _ _ (by omega)), by rw [hid]; exact hW4, by rw [hid]; exact paid_put hP4 hp13⟩) hH hS hl_23 (by omega) (by omega)
        · have h2 : (sGoes (sMorn B) k) 2 k = 0 := c_22
          refine lv_aload_n hx hb dL_isDay_319 rfl (lv_at hl 1 rfl) ?_
          refine lv_iload hx hb dL_isDay_320 (lv_at hl 7 rfl) ?_
          refine z_calli (va_runS (As := [.ref (r7 0), .int (nI k)]) (rest := []) ⟨hx, hb, hml, hown, hts⟩ (zl_due l hl9 D cy base x r7 7 B (z2 A4 5 k (B 13 k)) (by omega) k (by omega)) (va_cwS 2 hts gL_isDay_L_due rfl rfl rfl (by decide +kernel) ⟨Nat.le_of_ble_eq_true rfl, Nat.le_of_ble_eq_true rfl⟩) (z_preS hA hS hH) rfl rfl hl.1 rfl (lv_room (Nat.le_of_ble_eq_true rfl)) dL_isDay_322 ⟨(by show _ ≤ (320 : Nat); omega), (by show _ ≤ (3600 : Nat); omega)⟩) hS (fun r_k_24 u_k_24 H locs hw_k_24 hH hz_k_24 hS => ?_)
          obtain ⟨rfl, hu_k_24⟩ := hw_k_24
          rw [hu_k_24] at hH
          refine lv_eqi (show dF ((z2 A4 5 k (B 13 k)) 0) k = (sRel (sGoes (sMorn B) k) k) from dF_rel hE4 hkk (Or.inl h2)) ?_
          refine lv_aload_n hx hb dL_isDay_325 rfl (lv_at hl 3 rfl) ?_
          refine lv_iconst (v := 0) hx hb dL_isDay_326 (by decide) ?_
          refine l_iald (f := 4) (v := ((sGoes (sMorn B) k) 0 0)) (by omega) hx hb hA hH 0 rfl (by rw [show lLen 4 = 3 from rfl]; omega) hE4.1.2.1 dL_isDay_327 ?_
          refine lv_icmp_gt (tgt := 410) hx hb dL_isDay_328 (by decide) (fun c_25 => ?_) (fun c_25 => ?_)
          · have hno := sGo_no (B := (sGoes (sMorn B) k)) (i := k) (Or.inr (Int32.not_le.mpr c_25))
            have hid : sGoes (sMorn B) (k + 1) = (sGoes (sMorn B) k) := hno.1
            refine lv_iinc (v := ((nI k) + 1)) (lv' := [(7, .int ((nI k) + 1)), (0, .ref x), (1, .ref (r7 0)), (2, .ref (r7 1)), (3, .ref (r7 4)), (4, .ref (r7 5)), (5, .ref (r7 6)), (6, .int (sGoesN (sMorn B) 0 k))]) hx hb dL_isDay_410 hl (k := 7) rfl rfl (by decide) rfl (fun ls hl => ?_)
            rw [show (((nI k) + 1) : Int32) = (nI (k + 1)) from nI_add k 1] at hl
            refine lv_goto (tgt := 288) hx hb dL_isDay_413 (by decide) ?_
            have hl_26 : lv_has ls 10 [(0, .ref x), (1, .ref (r7 0)), (2, .ref (r7 1)), (3, .ref (r7 4)), (4, .ref (r7 5)), (5, .ref (r7 6)), (6, .int (sGoesN (sMorn B) 0 k)), (7, .int (nI (k + 1)))] := lv_sub hl [1, 2, 3, 4, 5, 6, 7, 0] rfl
            rw [show ((sGoesN (sMorn B) 0 k) : Int32) = (sGoesN (sMorn B) 0 (k + 1)) from (show sGoesN (sMorn B) 0 k = sGoesN (sMorn B) 0 k + sGoN (sGoes (sMorn B) k) k by rw [hno.2, Int32.add_zero])] at hl_26
            have hl_26 : lv_has ls 10 [(0, .ref x), (1, .ref (r7 0)), (2, .ref (r7 1)), (3, .ref (r7 4)), (4, .ref (r7 5)), (5, .ref (r7 6)), (6, .int (sGoesN (sMorn B) 0 (k + 1))), (7, .int (nI (k + 1)))] := hl_26
            exact ihk _ _ _ _ _ _ (⟨(z2 A4 5 k (B 13 k)), rfl, by rw [hid]; exact JE_row hE4 (fun f hf => z2_ne1 _ _ _ (by omega)), by rw [hid]; exact hW4, by rw [hid]; exact paid_put hP4 hp13⟩) hH hS hl_26 (by omega) (by omega)
          · have hd : sRel (sGoes (sMorn B) k) k ≤ (sGoes (sMorn B) k) 0 0 := Int32.not_lt.mp c_25
            have hy := go_yes h2 hd
            refine lv_aload_n hx hb dL_isDay_331 rfl (lv_at hl 1 rfl) ?_
            refine lv_bipush (v := 10) hx hb dL_isDay_332 (by decide) ?_
            refine lv_iload hx hb dL_isDay_334 (lv_at hl 7 rfl) ?_
            refine lv_imul hx hb dL_isDay_336 ?_
            refine lv_eqi (pk_mul 10 k) ?_
            refine lv_iconst (v := 4) hx hb dL_isDay_337 (by decide) ?_
            refine lv_iadd hx hb dL_isDay_338 ?_
            refine lv_eqi (nI_add (10 * k) 4) ?_
            refine lv_iconst (v := 1) hx hb dL_isDay_339 (by decide) ?_
            refine l_iast (f := 0) (by omega) hx hb hA hH hS (10 * k + 4) rfl (by rw [show lLen 0 = 60 from rfl]; omega) dL_isDay_340 (fun H locs hH hS => ?_)
            refine lv_aload_n hx hb dL_isDay_341 rfl (lv_at hl 1 rfl) ?_
            refine lv_bipush (v := 10) hx hb dL_isDay_342 (by decide) ?_
            refine lv_iload hx hb dL_isDay_344 (lv_at hl 7 rfl) ?_
            refine lv_imul hx hb dL_isDay_346 ?_
            refine lv_eqi (pk_mul 10 k) ?_
            refine lv_iconst (v := 5) hx hb dL_isDay_347 (by decide) ?_
            refine lv_iadd hx hb dL_isDay_348 ?_
            refine lv_eqi (nI_add (10 * k) 5) ?_
            refine lv_aload_n hx hb dL_isDay_349 rfl (lv_at hl 3 rfl) ?_
            refine lv_iconst (v := 0) hx hb dL_isDay_350 (by decide) ?_
            refine l_iald (f := 4) (v := ((sGoes (sMorn B) k) 0 0)) (by omega) hx hb hA hH 0 rfl (by rw [show lLen 4 = 3 from rfl]; omega) hE4.1.2.1 dL_isDay_351 ?_
            refine l_iast (f := 0) (by omega) hx hb hA hH hS (10 * k + 5) rfl (by rw [show lLen 0 = 60 from rfl]; omega) dL_isDay_352 (fun H locs hH hS => ?_)
            refine lv_aload_n hx hb dL_isDay_353 rfl (lv_at hl 1 rfl) ?_
            refine lv_bipush (v := 10) hx hb dL_isDay_354 (by decide) ?_
            refine lv_iload hx hb dL_isDay_356 (lv_at hl 7 rfl) ?_
            refine lv_imul hx hb dL_isDay_358 ?_
            refine lv_eqi (pk_mul 10 k) ?_
            refine lv_iconst (v := 3) hx hb dL_isDay_359 (by decide) ?_
            refine lv_iadd hx hb dL_isDay_360 ?_
            refine lv_eqi (nI_add (10 * k) 3) ?_
            refine lv_iconst (v := (-1)) hx hb dL_isDay_361 (by decide) ?_
            refine l_iast (f := 0) (by omega) hx hb hA hH hS (10 * k + 3) rfl (by rw [show lLen 0 = 60 from rfl]; omega) dL_isDay_362 (fun H locs hH hS => ?_)
            refine lv_aload hx hb dL_isDay_363 (lv_at hl 4 rfl) ?_
            refine lv_iload hx hb dL_isDay_365 (lv_at hl 7 rfl) ?_
            refine lv_aload hx hb dL_isDay_367 (lv_at hl 5 rfl) ?_
            refine lv_iconst (v := 4) hx hb dL_isDay_369 (by decide) ?_
            refine lv_iload hx hb dL_isDay_370 (lv_at hl 7 rfl) ?_
            refine lv_imul hx hb dL_isDay_372 ?_
            refine lv_eqi (pk_mul 4 k) ?_
            refine lv_iconst (v := 2) hx hb dL_isDay_373 (by decide) ?_
            refine lv_iadd hx hb dL_isDay_374 ?_
            refine lv_eqi (nI_add (4 * k) 2) ?_
            refine l_iald (f := 6) (v := (A4 6 (4 * k + 2))) (by omega) hx hb hA hH (4 * k + 2) rfl (by rw [show lLen 6 = 24 from rfl]; omega) rfl dL_isDay_375 ?_
            refine lv_aload hx hb dL_isDay_376 (lv_at hl 5 rfl) ?_
            refine lv_iconst (v := 4) hx hb dL_isDay_378 (by decide) ?_
            refine lv_iload hx hb dL_isDay_379 (lv_at hl 7 rfl) ?_
            refine lv_imul hx hb dL_isDay_381 ?_
            refine lv_eqi (pk_mul 4 k) ?_
            refine lv_iconst (v := 3) hx hb dL_isDay_382 (by decide) ?_
            refine lv_iadd hx hb dL_isDay_383 ?_
            refine lv_eqi (nI_add (4 * k) 3) ?_
            refine l_iald (f := 6) (v := (A4 6 (4 * k + 3))) (by omega) hx hb hA hH (4 * k + 3) rfl (by rw [show lLen 6 = 24 from rfl]; omega) rfl dL_isDay_384 ?_
            refine lv_iadd hx hb dL_isDay_385 ?_
            refine l_iast (f := 5) (by omega) hx hb hA hH hS k rfl (by rw [show lLen 5 = 6 from rfl]; omega) dL_isDay_386 (fun H locs hH hS => ?_)
            refine lv_aload hx hb dL_isDay_387 (lv_at hl 5 rfl) ?_
            refine lv_iconst (v := 4) hx hb dL_isDay_389 (by decide) ?_
            refine lv_iload hx hb dL_isDay_390 (lv_at hl 7 rfl) ?_
            refine lv_imul hx hb dL_isDay_392 ?_
            refine lv_eqi (pk_mul 4 k) ?_
            refine lv_iconst (v := 2) hx hb dL_isDay_393 (by decide) ?_
            refine lv_iadd hx hb dL_isDay_394 ?_
            refine lv_eqi (nI_add (4 * k) 2) ?_
            refine lv_iconst (v := 0) hx hb dL_isDay_395 (by decide) ?_
            refine l_iast (f := 6) (by omega) hx hb hA hH hS (4 * k + 2) rfl (by rw [show lLen 6 = 24 from rfl]; omega) dL_isDay_396 (fun H locs hH hS => ?_)
            refine lv_aload hx hb dL_isDay_397 (lv_at hl 5 rfl) ?_
            refine lv_iconst (v := 4) hx hb dL_isDay_399 (by decide) ?_
            refine lv_iload hx hb dL_isDay_400 (lv_at hl 7 rfl) ?_
            refine lv_imul hx hb dL_isDay_402 ?_
            refine lv_eqi (pk_mul 4 k) ?_
            refine lv_iconst (v := 3) hx hb dL_isDay_403 (by decide) ?_
            refine lv_iadd hx hb dL_isDay_404 ?_
            refine lv_eqi (nI_add (4 * k) 3) ?_
            refine lv_iconst (v := 0) hx hb dL_isDay_405 (by decide) ?_
            refine l_iast (f := 6) (by omega) hx hb hA hH hS (4 * k + 3) rfl (by rw [show lLen 6 = 24 from rfl]; omega) dL_isDay_406 (fun H locs hH hS => ?_)
            refine lv_iinc (v := ((sGoesN (sMorn B) 0 k) + 1)) (lv' := [(6, .int ((sGoesN (sMorn B) 0 k) + 1)), (0, .ref x), (1, .ref (r7 0)), (2, .ref (r7 1)), (3, .ref (r7 4)), (4, .ref (r7 5)), (5, .ref (r7 6)), (7, .int (nI k))]) hx hb dL_isDay_407 hl (k := 6) rfl rfl (by decide) rfl (fun ls hl => ?_)
            refine lv_iinc (v := ((nI k) + 1)) (lv' := [(7, .int ((nI k) + 1)), (6, .int ((sGoesN (sMorn B) 0 k) + 1)), (0, .ref x), (1, .ref (r7 0)), (2, .ref (r7 1)), (3, .ref (r7 4)), (4, .ref (r7 5)), (5, .ref (r7 6))]) hx hb dL_isDay_410 hl (k := 7) rfl rfl (by decide) rfl (fun ls hl => ?_)
            rw [show (((nI k) + 1) : Int32) = (nI (k + 1)) from nI_add k 1] at hl
            refine lv_goto (tgt := 288) hx hb dL_isDay_413 (by decide) ?_
            have hl_27 : lv_has ls 10 [(0, .ref x), (1, .ref (r7 0)), (2, .ref (r7 1)), (3, .ref (r7 4)), (4, .ref (r7 5)), (5, .ref (r7 6)), (6, .int ((sGoesN (sMorn B) 0 k) + 1)), (7, .int (nI (k + 1)))] := lv_sub hl [2, 3, 4, 5, 6, 7, 1, 0] rfl
            rw [show (((sGoesN (sMorn B) 0 k) + 1) : Int32) = (sGoesN (sMorn B) 0 (k + 1)) from (show sGoesN (sMorn B) 0 k + 1 = sGoesN (sMorn B) 0 k + sGoN (sGoes (sMorn B) k) k by rw [hy.2.2.2.2.2])] at hl_27
            have hl_27 : lv_has ls 10 [(0, .ref x), (1, .ref (r7 0)), (2, .ref (r7 1)), (3, .ref (r7 4)), (4, .ref (r7 5)), (5, .ref (r7 6)), (6, .int (sGoesN (sMorn B) 0 (k + 1))), (7, .int (nI (k + 1)))] := hl_27
            exact ihk _ _ _ _ _ _ (⟨(z2 (z2 (z2 (z2 (z2 (z2 (z2 A4 5 k (B 13 k)) 0 (10 * k + 4) 1) 0 (10 * k + 5) ((sGoes (sMorn B) k) 0 0)) 0 (10 * k + 3) (-1)) 5 k ((A4 6 (4 * k + 2)) + (A4 6 (4 * k + 3)))) 6 (4 * k + 2) 0) 6 (4 * k + 3) 0), rfl, JE_row (JE_go (JE_row hE4 (A' := z2 A4 5 k (B 13 k)) (fun f hf => z2_ne1 _ _ _ (by omega))) hkk h2 hd) (fun f hf => by rw [z2_ne1 _ _ _ (by omega : f ≠ 6), z2_ne1 _ _ _ (by omega : f ≠ 6), z2_ne1 _ _ _ (by omega : f ≠ 5)]), had_go (X := (sGoes (sMorn B) k)) (n := nP B) hW4 h2 hd, fun i hi => (paid_go (X := (sGoes (sMorn B) k)) (F := z2 A4 5 k (B 13 k)) (fun i hi => (z2_ne2 _ _ _ _ (by omega)).trans (hP4 i hi)) (by rw [hW4 k hk 2 (by decide), hW4 k hk 3 (by decide)]; exact hy.1.symm) i hi)⟩) hH hS hl_27 (by omega) (by omega)
    · intro k hk ihk u H locs ls hI hH hS hl
      obtain ⟨A2, rfl, hE2, hW2⟩ := hI
      have hms := mInv_same hJ.1 (mSame_tr (sWorks_same B (nP B)) (sLeaves_same (sWorks B (nP B)) k))
      have hkk : k < nP (sLeaves (sWorks B (nP B)) k) := by rw [hms.2.1]; exact hk
      refine lv_iload hx hb dL_isDay_209 (lv_at hl 6 rfl) ?_
      refine lv_aload_n hx hb dL_isDay_211 rfl (lv_at hl 3 rfl) ?_
      refine lv_iconst (v := 1) hx hb dL_isDay_212 (by decide) ?_
      refine l_iald (f := 4) (v := (nI (nP B))) (by omega) hx hb hA hH 1 rfl (by rw [show lLen 4 = 3 from rfl]; omega) (hE2.1.2.2.1.trans (congrArg nI hms.2.1)) dL_isDay_213 ?_
      refine lv_icmp_ge (tgt := 275) hx hb dL_isDay_214 (by decide) (fun c_28 => absurd ((nI_leI (a := nP B) (b := k) (by omega) (by omega)).mp c_28) (by omega)) (fun _ => ?_)
      rcases (hms.1.2.2.1 k hkk).2.2.2.2 with h11 | h11
      · refine lv_aload_n hx hb dL_isDay_217 rfl (lv_at hl 1 rfl) ?_
        refine lv_bipush (v := 10) hx hb dL_isDay_218 (by decide) ?_
        refine lv_iload hx hb dL_isDay_220 (lv_at hl 6 rfl) ?_
        refine lv_imul hx hb dL_isDay_222 ?_
        refine lv_eqi (pk_mul 10 k) ?_
        refine lv_iconst (v := 3) hx hb dL_isDay_223 (by decide) ?_
        refine lv_iadd hx hb dL_isDay_224 ?_
        refine lv_eqi (nI_add (10 * k) 3) ?_
        refine lv_aload_n hx hb dL_isDay_225 rfl (lv_at hl 1 rfl) ?_
        refine lv_bipush (v := 10) hx hb dL_isDay_226 (by decide) ?_
        refine lv_iload hx hb dL_isDay_228 (lv_at hl 6 rfl) ?_
        refine lv_imul hx hb dL_isDay_230 ?_
        refine lv_eqi (pk_mul 10 k) ?_
        refine lv_iconst (v := 3) hx hb dL_isDay_231 (by decide) ?_
        refine lv_iadd hx hb dL_isDay_232 ?_
        refine lv_eqi (nI_add (10 * k) 3) ?_
        refine l_iald (f := 0) (v := ((sLeaves (sWorks B (nP B)) k) 11 k)) (by omega) hx hb hA hH (10 * k + 3) rfl (by rw [show lLen 0 = 60 from rfl]; omega) (hE2.2.1 k hkk).2.2.2 dL_isDay_233 ?_
        refine lv_if_lt (tgt := 259) hx hb dL_isDay_234 (by decide) (fun _ => ?_) (fun c_29 => absurd (show (sLeaves (sWorks B (nP B)) k) 11 k < 0 by rw [h11]; decide) c_29)
        refine lv_aload_n hx hb dL_isDay_259 rfl (lv_at hl 1 rfl) ?_
        refine lv_bipush (v := 10) hx hb dL_isDay_260 (by decide) ?_
        refine lv_iload hx hb dL_isDay_262 (lv_at hl 6 rfl) ?_
        refine lv_imul hx hb dL_isDay_264 ?_
        refine lv_eqi (pk_mul 10 k) ?_
        refine lv_iconst (v := 3) hx hb dL_isDay_265 (by decide) ?_
        refine lv_iadd hx hb dL_isDay_266 ?_
        refine lv_eqi (nI_add (10 * k) 3) ?_
        refine l_iald (f := 0) (v := ((sLeaves (sWorks B (nP B)) k) 11 k)) (by omega) hx hb hA hH (10 * k + 3) rfl (by rw [show lLen 0 = 60 from rfl]; omega) (hE2.2.1 k hkk).2.2.2 dL_isDay_267 ?_
        refine l_iast (f := 0) (by omega) hx hb hA hH hS (10 * k + 3) rfl (by rw [show lLen 0 = 60 from rfl]; omega) dL_isDay_268 (fun H locs hH hS => ?_)
        refine lv_iinc (v := ((nI k) + 1)) (lv' := [(6, .int ((nI k) + 1)), (0, .ref x), (1, .ref (r7 0)), (2, .ref (r7 1)), (3, .ref (r7 4)), (4, .ref (r7 5)), (5, .ref (r7 6))]) hx hb dL_isDay_269 hl (k := 6) rfl rfl (by decide) rfl (fun ls hl => ?_)
        rw [show (((nI k) + 1) : Int32) = (nI (k + 1)) from nI_add k 1] at hl
        refine lv_goto (tgt := 209) hx hb dL_isDay_272 (by decide) ?_
        have hl_30 : lv_has ls 10 [(0, .ref x), (1, .ref (r7 0)), (2, .ref (r7 1)), (3, .ref (r7 4)), (4, .ref (r7 5)), (5, .ref (r7 6)), (6, .int (nI (k + 1)))] := lv_sub hl [1, 2, 3, 4, 5, 6, 0] rfl
        have hl_30 : lv_has ls 10 [(0, .ref x), (1, .ref (r7 0)), (2, .ref (r7 1)), (3, .ref (r7 4)), (4, .ref (r7 5)), (5, .ref (r7 6)), (6, .int (nI (k + 1)))] := hl_30
        exact ihk _ _ _ _ _ _ (⟨(z2 A2 0 (10 * k + 3) ((sLeaves (sWorks B (nP B)) k) 11 k)), rfl, JE_leave hE2 hkk (by rw [if_pos h11]; exact h11), hW2⟩) hH hS hl_30 (by omega) (by omega)
      · obtain ⟨h11, hox⟩ := h11
        obtain ⟨j9, hj9⟩ : ∃ j9, j9 = ox (sLeaves (sWorks B (nP B)) k) k := ⟨_, rfl⟩
        rw [← hj9] at h11 hox
        have hj8 : j9 < 8 := by have := hms.2.2; omega
        have h11n : ¬ (sLeaves (sWorks B (nP B)) k) 11 k = -1 := fun z => nI_neg (a := j9) (by omega) (z.symm.trans h11)
        refine lv_aload_n hx hb dL_isDay_217 rfl (lv_at hl 1 rfl) ?_
        refine lv_bipush (v := 10) hx hb dL_isDay_218 (by decide) ?_
        refine lv_iload hx hb dL_isDay_220 (lv_at hl 6 rfl) ?_
        refine lv_imul hx hb dL_isDay_222 ?_
        refine lv_eqi (pk_mul 10 k) ?_
        refine lv_iconst (v := 3) hx hb dL_isDay_223 (by decide) ?_
        refine lv_iadd hx hb dL_isDay_224 ?_
        refine lv_eqi (nI_add (10 * k) 3) ?_
        refine lv_aload_n hx hb dL_isDay_225 rfl (lv_at hl 1 rfl) ?_
        refine lv_bipush (v := 10) hx hb dL_isDay_226 (by decide) ?_
        refine lv_iload hx hb dL_isDay_228 (lv_at hl 6 rfl) ?_
        refine lv_imul hx hb dL_isDay_230 ?_
        refine lv_eqi (pk_mul 10 k) ?_
        refine lv_iconst (v := 3) hx hb dL_isDay_231 (by decide) ?_
        refine lv_iadd hx hb dL_isDay_232 ?_
        refine lv_eqi (nI_add (10 * k) 3) ?_
        refine l_iald (f := 0) (v := ((sLeaves (sWorks B (nP B)) k) 11 k)) (by omega) hx hb hA hH (10 * k + 3) rfl (by rw [show lLen 0 = 60 from rfl]; omega) (hE2.2.1 k hkk).2.2.2 dL_isDay_233 ?_
        refine lv_if_lt (tgt := 259) hx hb dL_isDay_234 (by decide) (fun c_31 => absurd c_31 (show ¬ (sLeaves (sWorks B (nP B)) k) 11 k < 0 by rw [h11]; exact nI_pos (by omega))) (fun _ => ?_)
        refine lv_aload_n hx hb dL_isDay_237 rfl (lv_at hl 2 rfl) ?_
        refine lv_iconst (v := 4) hx hb dL_isDay_238 (by decide) ?_
        refine lv_aload_n hx hb dL_isDay_239 rfl (lv_at hl 1 rfl) ?_
        refine lv_bipush (v := 10) hx hb dL_isDay_240 (by decide) ?_
        refine lv_iload hx hb dL_isDay_242 (lv_at hl 6 rfl) ?_
        refine lv_imul hx hb dL_isDay_244 ?_
        refine lv_eqi (pk_mul 10 k) ?_
        refine lv_iconst (v := 3) hx hb dL_isDay_245 (by decide) ?_
        refine lv_iadd hx hb dL_isDay_246 ?_
        refine lv_eqi (nI_add (10 * k) 3) ?_
        refine l_iald (f := 0) (v := ((sLeaves (sWorks B (nP B)) k) 11 k)) (by omega) hx hb hA hH (10 * k + 3) rfl (by rw [show lLen 0 = 60 from rfl]; omega) (hE2.2.1 k hkk).2.2.2 dL_isDay_247 ?_
        refine lv_eqi h11 ?_
        refine lv_imul hx hb dL_isDay_248 ?_
        refine lv_eqi (pk_mul 4 j9) ?_
        refine lv_iconst (v := 2) hx hb dL_isDay_249 (by decide) ?_
        refine lv_iadd hx hb dL_isDay_250 ?_
        refine lv_eqi (nI_add (4 * j9) 2) ?_
        refine l_iald (f := 1) (v := ((sLeaves (sWorks B (nP B)) k) 25 j9)) (by omega) hx hb hA hH (4 * j9 + 2) rfl (by rw [show lLen 1 = 32 from rfl]; omega) (hE2.2.2.2.2.1 j9 hox).2.2.1 dL_isDay_251 ?_
        refine lv_if_ne (tgt := 259) hx hb dL_isDay_252 (by decide) (fun c_32 => ?_) (fun c_32 => ?_)
        · refine lv_aload_n hx hb dL_isDay_259 rfl (lv_at hl 1 rfl) ?_
          refine lv_bipush (v := 10) hx hb dL_isDay_260 (by decide) ?_
          refine lv_iload hx hb dL_isDay_262 (lv_at hl 6 rfl) ?_
          refine lv_imul hx hb dL_isDay_264 ?_
          refine lv_eqi (pk_mul 10 k) ?_
          refine lv_iconst (v := 3) hx hb dL_isDay_265 (by decide) ?_
          refine lv_iadd hx hb dL_isDay_266 ?_
          refine lv_eqi (nI_add (10 * k) 3) ?_
          refine l_iald (f := 0) (v := ((sLeaves (sWorks B (nP B)) k) 11 k)) (by omega) hx hb hA hH (10 * k + 3) rfl (by rw [show lLen 0 = 60 from rfl]; omega) (hE2.2.1 k hkk).2.2.2 dL_isDay_267 ?_
          refine l_iast (f := 0) (by omega) hx hb hA hH hS (10 * k + 3) rfl (by rw [show lLen 0 = 60 from rfl]; omega) dL_isDay_268 (fun H locs hH hS => ?_)
          refine lv_iinc (v := ((nI k) + 1)) (lv' := [(6, .int ((nI k) + 1)), (0, .ref x), (1, .ref (r7 0)), (2, .ref (r7 1)), (3, .ref (r7 4)), (4, .ref (r7 5)), (5, .ref (r7 6))]) hx hb dL_isDay_269 hl (k := 6) rfl rfl (by decide) rfl (fun ls hl => ?_)
          rw [show (((nI k) + 1) : Int32) = (nI (k + 1)) from nI_add k 1] at hl
          refine lv_goto (tgt := 209) hx hb dL_isDay_272 (by decide) ?_
          have hl_33 : lv_has ls 10 [(0, .ref x), (1, .ref (r7 0)), (2, .ref (r7 1)), (3, .ref (r7 4)), (4, .ref (r7 5)), (5, .ref (r7 6)), (6, .int (nI (k + 1)))] := lv_sub hl [1, 2, 3, 4, 5, 6, 0] rfl
          have hl_33 : lv_has ls 10 [(0, .ref x), (1, .ref (r7 0)), (2, .ref (r7 1)), (3, .ref (r7 4)), (4, .ref (r7 5)), (5, .ref (r7 6)), (6, .int (nI (k + 1)))] := hl_33
          exact ihk _ _ _ _ _ _ (⟨(z2 A2 0 (10 * k + 3) ((sLeaves (sWorks B (nP B)) k) 11 k)), rfl, JE_leave hE2 hkk (by rw [if_neg h11n, ← hj9, if_neg c_32]), hW2⟩) hH hS hl_33 (by omega) (by omega)
        · refine lv_iconst (v := (-1)) hx hb dL_isDay_255 (by decide) ?_
          refine lv_goto (tgt := 268) hx hb dL_isDay_256 (by decide) ?_
          refine l_iast (f := 0) (by omega) hx hb hA hH hS (10 * k + 3) rfl (by rw [show lLen 0 = 60 from rfl]; omega) dL_isDay_268 (fun H locs hH hS => ?_)
          refine lv_iinc (v := ((nI k) + 1)) (lv' := [(6, .int ((nI k) + 1)), (0, .ref x), (1, .ref (r7 0)), (2, .ref (r7 1)), (3, .ref (r7 4)), (4, .ref (r7 5)), (5, .ref (r7 6))]) hx hb dL_isDay_269 hl (k := 6) rfl rfl (by decide) rfl (fun ls hl => ?_)
          rw [show (((nI k) + 1) : Int32) = (nI (k + 1)) from nI_add k 1] at hl
          refine lv_goto (tgt := 209) hx hb dL_isDay_272 (by decide) ?_
          have hl_34 : lv_has ls 10 [(0, .ref x), (1, .ref (r7 0)), (2, .ref (r7 1)), (3, .ref (r7 4)), (4, .ref (r7 5)), (5, .ref (r7 6)), (6, .int (nI (k + 1)))] := lv_sub hl [1, 2, 3, 4, 5, 6, 0] rfl
          have hl_34 : lv_has ls 10 [(0, .ref x), (1, .ref (r7 0)), (2, .ref (r7 1)), (3, .ref (r7 4)), (4, .ref (r7 5)), (5, .ref (r7 6)), (6, .int (nI (k + 1)))] := hl_34
          exact ihk _ _ _ _ _ _ (⟨(z2 A2 0 (10 * k + 3) (-1)), rfl, JE_leave hE2 hkk (by rw [if_neg h11n, ← hj9, if_pos c_32]), hW2⟩) hH hS hl_34 (by omega) (by omega)
  · intro k hk ihk u H locs ls hI hH hS hl
    obtain ⟨A1, rfl, hE1, hW1⟩ := hI
    have hms := mInv_same hJ.1 (sWorks_same B k)
    have hkk : k < nP (sWorks B k) := by rw [hms.2.1]; exact hk
    refine lv_iload hx hb dL_isDay_15 (lv_at hl 6 rfl) ?_
    refine lv_aload_n hx hb dL_isDay_17 rfl (lv_at hl 3 rfl) ?_
    refine lv_iconst (v := 1) hx hb dL_isDay_18 (by decide) ?_
    refine l_iald (f := 4) (v := (nI (nP B))) (by omega) hx hb hA hH 1 rfl (by rw [show lLen 4 = 3 from rfl]; omega) (hE1.1.2.2.1.trans (congrArg nI hms.2.1)) dL_isDay_19 ?_
    refine lv_icmp_ge (tgt := 206) hx hb dL_isDay_20 (by decide) (fun c_35 => absurd ((nI_leI (a := nP B) (b := k) (by omega) (by omega)).mp c_35) (by omega)) (fun _ => ?_)
    refine lv_aload_n hx hb dL_isDay_23 rfl (lv_at hl 1 rfl) ?_
    refine lv_bipush (v := 10) hx hb dL_isDay_24 (by decide) ?_
    refine lv_iload hx hb dL_isDay_26 (lv_at hl 6 rfl) ?_
    refine lv_imul hx hb dL_isDay_28 ?_
    refine lv_eqi (pk_mul 10 k) ?_
    refine lv_iconst (v := 3) hx hb dL_isDay_29 (by decide) ?_
    refine lv_iadd hx hb dL_isDay_30 ?_
    refine lv_eqi (nI_add (10 * k) 3) ?_
    refine l_iald (f := 0) (v := ((sWorks B k) 11 k)) (by omega) hx hb hA hH (10 * k + 3) rfl (by rw [show lLen 0 = 60 from rfl]; omega) (hE1.2.1 k hkk).2.2.2 dL_isDay_31 ?_
    refine lv_istore (lv' := [(7, .int ((sWorks B k) 11 k)), (0, .ref x), (1, .ref (r7 0)), (2, .ref (r7 1)), (3, .ref (r7 4)), (4, .ref (r7 5)), (5, .ref (r7 6)), (6, .int (nI k))]) hx hb dL_isDay_32 hl (by decide) rfl (fun ls hl => ?_)
    refine lv_iconst (v := 0) hx hb dL_isDay_34 (by decide) ?_
    refine lv_istore (lv' := [(8, .int 0), (7, .int ((sWorks B k) 11 k)), (0, .ref x), (1, .ref (r7 0)), (2, .ref (r7 1)), (3, .ref (r7 4)), (4, .ref (r7 5)), (5, .ref (r7 6)), (6, .int (nI k))]) hx hb dL_isDay_35 hl (by decide) rfl (fun ls hl => ?_)
    have hl_36 : lv_has ls 10 [(0, .ref x), (1, .ref (r7 0)), (2, .ref (r7 1)), (3, .ref (r7 4)), (4, .ref (r7 5)), (5, .ref (r7 6)), (6, .int (nI k)), (7, .int ((sWorks B k) 11 k)), (8, .int 0)] := lv_sub hl [2, 3, 4, 5, 6, 7, 8, 1, 0] rfl
    have hl_36 : lv_has ls 10 [(0, .ref x), (1, .ref (r7 0)), (2, .ref (r7 1)), (3, .ref (r7 4)), (4, .ref (r7 5)), (5, .ref (r7 6)), (6, .int (nI k)), (7, .int ((sWorks B k) 11 k)), (8, .int (nI 0))] := hl_36
    refine z_forc (S := lU) (nL := 10) (4) (fun j u => ∃ A2 : mB, u = (B, A2) ∧ JE (sWorks B k) A2 ∧ (∀ i, i < k → ∀ j', j' < 4 → A2 6 (4 * i + j') = sWorks B k 14 (4 * i + j')) ∧ (∀ j', j' < j → A2 6 (4 * k + j') = B 14 (4 * k + j'))) (fun j _ => [(0, .ref x), (1, .ref (r7 0)), (2, .ref (r7 1)), (3, .ref (r7 4)), (4, .ref (r7 5)), (5, .ref (r7 6)), (6, .int (nI k)), (7, .int ((sWorks B k) 11 k)), (8, .int (nI j))]) _ 6 _ 70 (⟨A1, rfl, hE1, hW1, fun j' h => absurd h (Nat.not_lt_zero j')⟩) hH hS hl_36 (Nat.le_refl _) (Nat.le_refl _) ?_ ?_
    · intro u H locs ls hI hH hS hl
      obtain ⟨A2, rfl, hE2, hW2, hV2⟩ := hI
      refine lv_iload hx hb dL_isDay_37 (lv_at hl 8 rfl) ?_
      refine lv_iconst (v := 4) hx hb dL_isDay_39 (by decide) ?_
      refine lv_icmp_ge (tgt := 67) hx hb dL_isDay_40 (by decide) (fun _ => ?_) (fun c_37 => absurd ((nI_leI (a := 4) (b := 4) (by omega) (by omega)).mpr (by omega)) c_37)
      have hW3 := had_all hW2 hV2
      rcases (hms.1.2.2.1 k hkk).2.2.2.2 with h11 | h11
      · have hid : sWorks B (k + 1) = sWorks B k := sWork_id (Or.inl h11)
        refine lv_iload hx hb dL_isDay_67 (lv_at hl 7 rfl) ?_
        refine lv_if_lt (tgt := 200) hx hb dL_isDay_69 (by decide) (fun _ => ?_) (fun c_38 => absurd (show sWorks B k 11 k < 0 by rw [h11]; decide) c_38)
        refine lv_iinc (v := ((nI k) + 1)) (lv' := [(6, .int ((nI k) + 1)), (0, .ref x), (1, .ref (r7 0)), (2, .ref (r7 1)), (3, .ref (r7 4)), (4, .ref (r7 5)), (5, .ref (r7 6)), (7, .int ((sWorks B k) 11 k)), (8, .int (nI 4))]) hx hb dL_isDay_200 hl (k := 6) rfl rfl (by decide) rfl (fun ls hl => ?_)
        rw [show (((nI k) + 1) : Int32) = (nI (k + 1)) from nI_add k 1] at hl
        refine lv_goto (tgt := 15) hx hb dL_isDay_203 (by decide) ?_
        have hl_39 : lv_has ls 10 [(0, .ref x), (1, .ref (r7 0)), (2, .ref (r7 1)), (3, .ref (r7 4)), (4, .ref (r7 5)), (5, .ref (r7 6)), (6, .int (nI (k + 1)))] := lv_sub hl [1, 2, 3, 4, 5, 6, 0] rfl
        have hl_39 : lv_has ls 10 [(0, .ref x), (1, .ref (r7 0)), (2, .ref (r7 1)), (3, .ref (r7 4)), (4, .ref (r7 5)), (5, .ref (r7 6)), (6, .int (nI (k + 1)))] := hl_39
        exact ihk _ _ _ _ _ _ (⟨A2, rfl, by rw [hid]; exact hE2, by rw [hid]; exact hW3⟩) hH hS hl_39 (by omega) (by omega)
      · obtain ⟨h11, hox⟩ := h11
        obtain ⟨j9, hj9⟩ : ∃ j9, j9 = ox (sWorks B k) k := ⟨_, rfl⟩
        rw [← hj9] at h11 hox
        have hj8 : j9 < 8 := by have := hms.2.2; omega
        have h11n : ¬ sWorks B k 11 k = -1 := fun z => nI_neg (a := j9) (by omega) (z.symm.trans h11)
        refine lv_iload hx hb dL_isDay_67 (lv_at hl 7 rfl) ?_
        refine lv_if_lt (tgt := 200) hx hb dL_isDay_69 (by decide) (fun c_40 => absurd c_40 (show ¬ sWorks B k 11 k < 0 by rw [h11]; exact nI_pos (by omega))) (fun _ => ?_)
        refine lv_aload_n hx hb dL_isDay_72 rfl (lv_at hl 2 rfl) ?_
        refine lv_iconst (v := 4) hx hb dL_isDay_73 (by decide) ?_
        refine lv_iload hx hb dL_isDay_74 (lv_at hl 7 rfl) ?_
        refine lv_eqi h11 ?_
        refine lv_imul hx hb dL_isDay_76 ?_
        refine lv_eqi (pk_mul 4 j9) ?_
        refine lv_iconst (v := 2) hx hb dL_isDay_77 (by decide) ?_
        refine lv_iadd hx hb dL_isDay_78 ?_
        refine lv_eqi (nI_add (4 * j9) 2) ?_
        refine l_iald (f := 1) (v := ((sWorks B k) 25 j9)) (by omega) hx hb hA hH (4 * j9 + 2) rfl (by rw [show lLen 1 = 32 from rfl]; omega) (hE2.2.2.2.2.1 j9 hox).2.2.1 dL_isDay_79 ?_
        refine lv_if_le (tgt := 200) hx hb dL_isDay_80 (by decide) (fun c_41 => ?_) (fun c_41 => ?_)
        · have hK2 : mInv2 (sWorks B k) := (K_works ⟨hJ.2.1, hJ.2.2⟩ hJ.1 k (by omega)).1
          have hz : sWorks B k 25 j9 = 0 := (le0_eq hK2 hox).mp c_41
          have hid : sWorks B (k + 1) = sWorks B k := sWork_id (Or.inr (by rw [← hj9]; exact hz))
          refine lv_iinc (v := ((nI k) + 1)) (lv' := [(6, .int ((nI k) + 1)), (0, .ref x), (1, .ref (r7 0)), (2, .ref (r7 1)), (3, .ref (r7 4)), (4, .ref (r7 5)), (5, .ref (r7 6)), (7, .int ((sWorks B k) 11 k)), (8, .int (nI 4))]) hx hb dL_isDay_200 hl (k := 6) rfl rfl (by decide) rfl (fun ls hl => ?_)
          rw [show (((nI k) + 1) : Int32) = (nI (k + 1)) from nI_add k 1] at hl
          refine lv_goto (tgt := 15) hx hb dL_isDay_203 (by decide) ?_
          have hl_42 : lv_has ls 10 [(0, .ref x), (1, .ref (r7 0)), (2, .ref (r7 1)), (3, .ref (r7 4)), (4, .ref (r7 5)), (5, .ref (r7 6)), (6, .int (nI (k + 1)))] := lv_sub hl [1, 2, 3, 4, 5, 6, 0] rfl
          have hl_42 : lv_has ls 10 [(0, .ref x), (1, .ref (r7 0)), (2, .ref (r7 1)), (3, .ref (r7 4)), (4, .ref (r7 5)), (5, .ref (r7 6)), (6, .int (nI (k + 1)))] := hl_42
          exact ihk _ _ _ _ _ _ (⟨A2, rfl, by rw [hid]; exact hE2, by rw [hid]; exact hW3⟩) hH hS hl_42 (by omega) (by omega)
        · have hK2 : mInv2 (sWorks B k) := (K_works ⟨hJ.2.1, hJ.2.2⟩ hJ.1 k (by omega)).1
          have hzn : ¬ sWorks B k 25 j9 = 0 := fun z => c_41 ((le0_eq hK2 hox).mpr z)
          refine lv_aload_n hx hb dL_isDay_83 rfl (lv_at hl 2 rfl) ?_
          refine lv_iconst (v := 4) hx hb dL_isDay_84 (by decide) ?_
          refine lv_iload hx hb dL_isDay_85 (lv_at hl 7 rfl) ?_
          refine lv_eqi h11 ?_
          refine lv_imul hx hb dL_isDay_87 ?_
          refine lv_eqi (pk_mul 4 j9) ?_
          refine lv_iconst (v := 3) hx hb dL_isDay_88 (by decide) ?_
          refine lv_iadd hx hb dL_isDay_89 ?_
          refine lv_eqi (nI_add (4 * j9) 3) ?_
          refine l_iald (f := 1) (v := ((sWorks B k) 26 j9)) (by omega) hx hb hA hH (4 * j9 + 3) rfl (by rw [show lLen 1 = 32 from rfl]; omega) (hE2.2.2.2.2.1 j9 hox).2.2.2.1 dL_isDay_90 ?_
          obtain ⟨g9, hg9, hw9⟩ := (hE2.2.2.2.2.1 j9 hox).2.2.2.2
          refine lv_eqi hw9 ?_
          refine lv_istore (lv' := [(8, .int (nI g9)), (0, .ref x), (1, .ref (r7 0)), (2, .ref (r7 1)), (3, .ref (r7 4)), (4, .ref (r7 5)), (5, .ref (r7 6)), (6, .int (nI k)), (7, .int ((sWorks B k) 11 k))]) hx hb dL_isDay_91 hl (by decide) rfl (fun ls hl => ?_)
          refine lv_aload_n hx hb dL_isDay_93 rfl (lv_at hl 3 rfl) ?_
          refine lv_iconst (v := 4) hx hb dL_isDay_94 (by decide) ?_
          refine lv_iload hx hb dL_isDay_95 (lv_at hl 8 rfl) ?_
          refine lv_eqi h11 ?_
          refine lv_imul hx hb dL_isDay_97 ?_
          refine lv_eqi (pk_mul 4 j9) ?_
          refine lv_iconst (v := 2) hx hb dL_isDay_98 (by decide) ?_
          refine lv_iadd hx hb dL_isDay_99 ?_
          refine lv_eqi (nI_add (4 * j9) 2) ?_
          refine lv_dup2_11 hx hb dL_isDay_100 rfl rfl ?_
          refine l_iald (f := 1) (v := ((sWorks B k) 25 j9)) (by omega) hx hb hA hH (4 * j9 + 2) rfl (by rw [show lLen 1 = 32 from rfl]; omega) (hE2.2.2.2.2.1 j9 hox).2.2.1 dL_isDay_101 ?_
          refine lv_iconst (v := 1) hx hb dL_isDay_102 (by decide) ?_
          refine lv_isub hx hb dL_isDay_103 ?_
          refine l_iast (f := 1) (by omega) hx hb hA hH hS (4 * j9 + 2) rfl (by rw [show lLen 1 = 32 from rfl]; omega) dL_isDay_104 (fun H locs hH hS => ?_)
          refine lv_aload_n hx hb dL_isDay_105 rfl (lv_at hl 2 rfl) ?_
          refine lv_bipush (v := 10) hx hb dL_isDay_106 (by decide) ?_
          refine lv_iload hx hb dL_isDay_108 (lv_at hl 7 rfl) ?_
          refine lv_imul hx hb dL_isDay_110 ?_
          refine lv_eqi (pk_mul 10 k) ?_
          refine lv_bipush (v := 6) hx hb dL_isDay_111 (by decide) ?_
          refine lv_iadd hx hb dL_isDay_113 ?_
          refine lv_eqi (nI_add (10 * k) 6) ?_
          refine lv_dup2_11 hx hb dL_isDay_114 rfl rfl ?_
          refine l_iald (f := 0) (v := ((sWorks B k) 7 k)) (by omega) hx hb hA hH (10 * k + 6) rfl (by rw [show lLen 0 = 60 from rfl]; omega) (hE2.2.2.1 k (by omega)).2.2.1 dL_isDay_115 ?_
          refine lv_iconst (v := 1) hx hb dL_isDay_116 (by decide) ?_
          refine lv_iadd hx hb dL_isDay_117 ?_
          refine l_iast (f := 0) (by omega) hx hb hA hH hS (10 * k + 6) rfl (by rw [show lLen 0 = 60 from rfl]; omega) dL_isDay_118 (fun H locs hH hS => ?_)
          refine lv_aload hx hb dL_isDay_119 (lv_at hl 6 rfl) ?_
          refine lv_iconst (v := 4) hx hb dL_isDay_121 (by decide) ?_
          refine lv_iload hx hb dL_isDay_122 (lv_at hl 7 rfl) ?_
          refine lv_imul hx hb dL_isDay_124 ?_
          refine lv_eqi (pk_mul 4 k) ?_
          refine lv_dup2_11 hx hb dL_isDay_125 rfl rfl ?_
          refine l_iald (f := 6) (v := (A2 6 (4 * k))) (by omega) hx hb hA hH (4 * k) rfl (by rw [show lLen 6 = 24 from rfl]; omega) rfl dL_isDay_126 ?_
          refine lv_iload hx hb dL_isDay_127 (lv_at hl 0 rfl) ?_
          refine lv_iconst (v := 3) hx hb dL_isDay_129 (by decide) ?_
          refine lv_imul hx hb dL_isDay_130 ?_
          refine lv_eqi ((pk_mul g9 3).trans (congrArg nI (Nat.mul_comm g9 3))) ?_
          refine lv_bipush (v := 10) hx hb dL_isDay_131 (by decide) ?_
          refine lv_idiv hx hb dL_isDay_133 (by decide) ?_
          refine lv_eqi (pk_div (a := 3 * g9) (d := 10) (by omega) (by omega) (by omega)) ?_
          refine lv_iadd hx hb dL_isDay_134 ?_
          refine l_iast (f := 6) (by omega) hx hb hA hH hS (4 * k) rfl (by rw [show lLen 6 = 24 from rfl]; omega) dL_isDay_135 (fun H locs hH hS => ?_)
          refine lv_aload hx hb dL_isDay_136 (lv_at hl 6 rfl) ?_
          refine lv_iconst (v := 4) hx hb dL_isDay_138 (by decide) ?_
          refine lv_iload hx hb dL_isDay_139 (lv_at hl 7 rfl) ?_
          refine lv_imul hx hb dL_isDay_141 ?_
          refine lv_eqi (pk_mul 4 k) ?_
          refine lv_iconst (v := 1) hx hb dL_isDay_142 (by decide) ?_
          refine lv_iadd hx hb dL_isDay_143 ?_
          refine lv_eqi (nI_add (4 * k) 1) ?_
          refine lv_dup2_11 hx hb dL_isDay_144 rfl rfl ?_
          refine l_iald (f := 6) (v := (A2 6 (4 * k + 1))) (by omega) hx hb hA hH (4 * k + 1) rfl (by rw [show lLen 6 = 24 from rfl]; omega) (show (z2 (z2 (z2 A2 1 (4 * j9 + 2) (((sWorks B k) 25 j9) - 1)) 0 (10 * k + 6) (((sWorks B k) 7 k) + 1)) 6 (4 * k) ((A2 6 (4 * k)) + (nI ((3 * g9) / 10)))) 6 (4 * k + 1) = (A2 6 (4 * k + 1)) from by simp [z2_ap]) dL_isDay_145 ?_
          refine lv_iload hx hb dL_isDay_146 (lv_at hl 0 rfl) ?_
          refine lv_iconst (v := 5) hx hb dL_isDay_148 (by decide) ?_
          refine lv_idiv hx hb dL_isDay_149 (by decide) ?_
          refine lv_eqi (pk_div (a := g9) (d := 5) (by omega) (by omega) (by omega)) ?_
          refine lv_iadd hx hb dL_isDay_150 ?_
          refine l_iast (f := 6) (by omega) hx hb hA hH hS (4 * k + 1) rfl (by rw [show lLen 6 = 24 from rfl]; omega) dL_isDay_151 (fun H locs hH hS => ?_)
          refine lv_aload hx hb dL_isDay_152 (lv_at hl 6 rfl) ?_
          refine lv_iconst (v := 4) hx hb dL_isDay_154 (by decide) ?_
          refine lv_iload hx hb dL_isDay_155 (lv_at hl 7 rfl) ?_
          refine lv_imul hx hb dL_isDay_157 ?_
          refine lv_eqi (pk_mul 4 k) ?_
          refine lv_iconst (v := 2) hx hb dL_isDay_158 (by decide) ?_
          refine lv_iadd hx hb dL_isDay_159 ?_
          refine lv_eqi (nI_add (4 * k) 2) ?_
          refine lv_dup2_11 hx hb dL_isDay_160 rfl rfl ?_
          refine l_iald (f := 6) (v := (A2 6 (4 * k + 2))) (by omega) hx hb hA hH (4 * k + 2) rfl (by rw [show lLen 6 = 24 from rfl]; omega) (show (z2 (z2 (z2 (z2 A2 1 (4 * j9 + 2) (((sWorks B k) 25 j9) - 1)) 0 (10 * k + 6) (((sWorks B k) 7 k) + 1)) 6 (4 * k) ((A2 6 (4 * k)) + (nI ((3 * g9) / 10)))) 6 (4 * k + 1) ((A2 6 (4 * k + 1)) + (nI (g9 / 5)))) 6 (4 * k + 2) = (A2 6 (4 * k + 2)) from by simp [z2_ap]) dL_isDay_161 ?_
          refine lv_iload hx hb dL_isDay_162 (lv_at hl 0 rfl) ?_
          refine lv_iconst (v := 3) hx hb dL_isDay_164 (by decide) ?_
          refine lv_imul hx hb dL_isDay_165 ?_
          refine lv_eqi ((pk_mul g9 3).trans (congrArg nI (Nat.mul_comm g9 3))) ?_
          refine lv_bipush (v := 10) hx hb dL_isDay_166 (by decide) ?_
          refine lv_idiv hx hb dL_isDay_168 (by decide) ?_
          refine lv_eqi (pk_div (a := 3 * g9) (d := 10) (by omega) (by omega) (by omega)) ?_
          refine lv_iadd hx hb dL_isDay_169 ?_
          refine l_iast (f := 6) (by omega) hx hb hA hH hS (4 * k + 2) rfl (by rw [show lLen 6 = 24 from rfl]; omega) dL_isDay_170 (fun H locs hH hS => ?_)
          refine lv_aload hx hb dL_isDay_171 (lv_at hl 6 rfl) ?_
          refine lv_iconst (v := 4) hx hb dL_isDay_173 (by decide) ?_
          refine lv_iload hx hb dL_isDay_174 (lv_at hl 7 rfl) ?_
          refine lv_imul hx hb dL_isDay_176 ?_
          refine lv_eqi (pk_mul 4 k) ?_
          refine lv_iconst (v := 3) hx hb dL_isDay_177 (by decide) ?_
          refine lv_iadd hx hb dL_isDay_178 ?_
          refine lv_eqi (nI_add (4 * k) 3) ?_
          refine lv_dup2_11 hx hb dL_isDay_179 rfl rfl ?_
          refine l_iald (f := 6) (v := (A2 6 (4 * k + 3))) (by omega) hx hb hA hH (4 * k + 3) rfl (by rw [show lLen 6 = 24 from rfl]; omega) (show (z2 (z2 (z2 (z2 (z2 A2 1 (4 * j9 + 2) (((sWorks B k) 25 j9) - 1)) 0 (10 * k + 6) (((sWorks B k) 7 k) + 1)) 6 (4 * k) ((A2 6 (4 * k)) + (nI ((3 * g9) / 10)))) 6 (4 * k + 1) ((A2 6 (4 * k + 1)) + (nI (g9 / 5)))) 6 (4 * k + 2) ((A2 6 (4 * k + 2)) + (nI ((3 * g9) / 10)))) 6 (4 * k + 3) = (A2 6 (4 * k + 3)) from by simp [z2_ap]) dL_isDay_180 ?_
          refine lv_iload hx hb dL_isDay_181 (lv_at hl 0 rfl) ?_
          refine lv_iload hx hb dL_isDay_183 (lv_at hl 0 rfl) ?_
          refine lv_iconst (v := 5) hx hb dL_isDay_185 (by decide) ?_
          refine lv_idiv hx hb dL_isDay_186 (by decide) ?_
          refine lv_eqi (pk_div (a := g9) (d := 5) (by omega) (by omega) (by omega)) ?_
          refine lv_isub hx hb dL_isDay_187 ?_
          refine lv_iconst (v := 2) hx hb dL_isDay_188 (by decide) ?_
          refine lv_iload hx hb dL_isDay_189 (lv_at hl 0 rfl) ?_
          refine lv_iconst (v := 3) hx hb dL_isDay_191 (by decide) ?_
          refine lv_imul hx hb dL_isDay_192 ?_
          refine lv_eqi ((pk_mul g9 3).trans (congrArg nI (Nat.mul_comm g9 3))) ?_
          refine lv_bipush (v := 10) hx hb dL_isDay_193 (by decide) ?_
          refine lv_idiv hx hb dL_isDay_195 (by decide) ?_
          refine lv_eqi (pk_div (a := 3 * g9) (d := 10) (by omega) (by omega) (by omega)) ?_
          refine lv_imul hx hb dL_isDay_196 ?_
          refine lv_eqi (pk_mul 2 ((3 * g9) / 10)) ?_
          refine lv_isub hx hb dL_isDay_197 ?_
          refine lv_iadd hx hb dL_isDay_198 ?_
          refine l_iast (f := 6) (by omega) hx hb hA hH hS (4 * k + 3) rfl (by rw [show lLen 6 = 24 from rfl]; omega) dL_isDay_199 (fun H locs hH hS => ?_)
          refine lv_iinc (v := ((nI k) + 1)) (lv' := [(6, .int ((nI k) + 1)), (8, .int (nI g9)), (0, .ref x), (1, .ref (r7 0)), (2, .ref (r7 1)), (3, .ref (r7 4)), (4, .ref (r7 5)), (5, .ref (r7 6)), (7, .int ((sWorks B k) 11 k))]) hx hb dL_isDay_200 hl (k := 7) rfl rfl (by decide) rfl (fun ls hl => ?_)
          rw [show (((nI k) + 1) : Int32) = (nI (k + 1)) from nI_add k 1] at hl
          refine lv_goto (tgt := 15) hx hb dL_isDay_203 (by decide) ?_
          have hl_43 : lv_has ls 10 [(0, .ref x), (1, .ref (r7 0)), (2, .ref (r7 1)), (3, .ref (r7 4)), (4, .ref (r7 5)), (5, .ref (r7 6)), (6, .int (nI (k + 1)))] := lv_sub hl [2, 3, 4, 5, 6, 7, 0] rfl
          have hl_43 : lv_has ls 10 [(0, .ref x), (1, .ref (r7 0)), (2, .ref (r7 1)), (3, .ref (r7 4)), (4, .ref (r7 5)), (5, .ref (r7 6)), (6, .int (nI (k + 1)))] := hl_43
          exact ihk _ _ _ _ _ _ (⟨(z2 (z2 (z2 (z2 (z2 (z2 A2 1 (4 * j9 + 2) (((sWorks B k) 25 j9) - 1)) 0 (10 * k + 6) (((sWorks B k) 7 k) + 1)) 6 (4 * k) ((A2 6 (4 * k)) + (nI ((3 * g9) / 10)))) 6 (4 * k + 1) ((A2 6 (4 * k + 1)) + (nI (g9 / 5)))) 6 (4 * k + 2) ((A2 6 (4 * k + 2)) + (nI ((3 * g9) / 10)))) 6 (4 * k + 3) ((A2 6 (4 * k + 3)) + (((nI g9) - (nI (g9 / 5))) - (nI (2 * ((3 * g9) / 10)))))), rfl, JE_row (JE_work hE2 hkk h11 hox hj9.symm hzn h11n) (fun f hf => by rw [z2_ne1 _ _ _ (by omega : f ≠ 6), z2_ne1 _ _ _ (by omega : f ≠ 6), z2_ne1 _ _ _ (by omega : f ≠ 6), z2_ne1 _ _ _ (by omega : f ≠ 6)]), had_work (X := sWorks B k) (F := z2 (z2 A2 1 (4 * j9 + 2) (sWorks B k 25 j9 - 1)) 0 (10 * k + 6) (sWorks B k 7 k + 1)) (g := g9) hW3 h11n (by rw [← hj9]; exact hzn) hg9 (by rw [← hj9]; exact hw9)⟩) hH hS hl_43 (by omega) (by omega)
    · intro j hj ihj u H locs ls hI hH hS hl
      obtain ⟨A2, rfl, hE2, hW2, hV2⟩ := hI
      refine lv_iload hx hb dL_isDay_37 (lv_at hl 8 rfl) ?_
      refine lv_iconst (v := 4) hx hb dL_isDay_39 (by decide) ?_
      refine lv_icmp_ge (tgt := 67) hx hb dL_isDay_40 (by decide) (fun c_44 => absurd ((nI_leI (a := 4) (b := j) (by omega) (by omega)).mp c_44) (by omega)) (fun _ => ?_)
      refine lv_aload hx hb dL_isDay_43 (lv_at hl 5 rfl) ?_
      refine lv_iconst (v := 4) hx hb dL_isDay_45 (by decide) ?_
      refine lv_iload hx hb dL_isDay_46 (lv_at hl 6 rfl) ?_
      refine lv_imul hx hb dL_isDay_48 ?_
      refine lv_eqi (pk_mul 4 k) ?_
      refine lv_iload hx hb dL_isDay_49 (lv_at hl 8 rfl) ?_
      refine lv_iadd hx hb dL_isDay_51 ?_
      refine lv_eqi (nI_add (4 * k) j) ?_
      refine lv_aload_n hx hb dL_isDay_52 rfl (lv_at hl 0 rfl) ?_
      refine lv_iload hx hb dL_isDay_53 (lv_at hl 6 rfl) ?_
      refine lv_iload hx hb dL_isDay_55 (lv_at hl 8 rfl) ?_
      refine z_calli (va_runV (As := [.int (nI k), .int (nI j)]) (rest := [.int (nI (4 * k + j)), .ref (r7 6)]) ⟨hx, hb, hml, hown, hts⟩ (cq_account l hl9 D cy base x r7 7 B A2 hJ.1 k j hk (by omega)) (cwV 2 hts gL_isDay_X5_account rfl rfl rfl (by decide +kernel) ⟨Nat.le_of_ble_eq_true rfl, Nat.le_of_ble_eq_true rfl⟩) (z_preV hA hS hH (l_recv hA hH)) rfl rfl hl.1 rfl (lv_room (Nat.le_of_ble_eq_true rfl)) dL_isDay_57 ⟨(by show _ ≤ (320 : Nat); omega), (by show _ ≤ (3600 : Nat); omega)⟩) hS (fun r_k_45 u_k_45 H locs hw_k_45 hH hz_k_45 hS => ?_)
      obtain ⟨rfl, hu_k_45⟩ := hw_k_45
      rw [hu_k_45] at hH
      refine l_iast (f := 6) (by omega) hx hb hA hH hS (4 * k + j) rfl (by rw [show lLen 6 = 24 from rfl]; omega) dL_isDay_60 (fun H locs hH hS => ?_)
      refine lv_iinc (v := ((nI j) + 1)) (lv' := [(8, .int ((nI j) + 1)), (0, .ref x), (1, .ref (r7 0)), (2, .ref (r7 1)), (3, .ref (r7 4)), (4, .ref (r7 5)), (5, .ref (r7 6)), (6, .int (nI k)), (7, .int ((sWorks B k) 11 k))]) hx hb dL_isDay_61 hl (k := 8) rfl rfl (by decide) rfl (fun ls hl => ?_)
      rw [show (((nI j) + 1) : Int32) = (nI (j + 1)) from nI_add j 1] at hl
      refine lv_goto (tgt := 37) hx hb dL_isDay_64 (by decide) ?_
      have hl_46 : lv_has ls 10 [(0, .ref x), (1, .ref (r7 0)), (2, .ref (r7 1)), (3, .ref (r7 4)), (4, .ref (r7 5)), (5, .ref (r7 6)), (6, .int (nI k)), (7, .int ((sWorks B k) 11 k)), (8, .int (nI (j + 1)))] := lv_sub hl [1, 2, 3, 4, 5, 6, 7, 8, 0] rfl
      have hl_46 : lv_has ls 10 [(0, .ref x), (1, .ref (r7 0)), (2, .ref (r7 1)), (3, .ref (r7 4)), (4, .ref (r7 5)), (5, .ref (r7 6)), (6, .int (nI k)), (7, .int ((sWorks B k) 11 k)), (8, .int (nI (j + 1)))] := hl_46
      exact ihj _ _ _ _ _ _ (⟨(z2 A2 6 (4 * k + j) (B 14 (4 * k + j))), rfl, JE_row hE2 (fun f hf => z2_ne1 _ _ _ (by omega)), had_old hW2 hj, had_put hV2⟩) hH hS hl_46 (by omega) (by omega)
