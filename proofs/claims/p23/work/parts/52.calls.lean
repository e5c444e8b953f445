/-! THE LAW'S CALLS OF THE CLASS: those that can't throw (cq), by 'does' (zd), by 'asks' (za) -/
theorem cdP0 {B : mB} (h : mInv B) {i : Nat} (hi : i < nP B) : cd_P B (nI i) = 0 := if_pos ((vP_iff h).mpr ⟨i, hi, rfl⟩)
theorem cdK0 {B : mB} {j : Nat} (hj : j < 3) : cd_K B (nI j) = 0 := if_pos ((vLies_nat (n := 3) (by decide)).mpr ⟨j, hj, rfl⟩)
theorem cdO0 {B : mB} (h : mInv B) {j : Nat} (hj : j < nO B) : cd_O B (nI j) = 0 := if_pos ((vO_iff h).mpr ⟨j, hj, rfl⟩)
theorem cdA0 {B : mB} (h : mInv B) {i j : Nat} (hi : i < nP B) (hj : j < 4) : cd_account B (nI i) (nI j) = 0 := if_pos ⟨(vP_iff h).mpr ⟨i, hi, rfl⟩, (vLies_nat (n := 4) (by decide)).mpr ⟨j, hj, rfl⟩⟩
theorem lH_J {D : va_G} {cy : Nat → ClassId} {base x n : Nat} {r : Nat → Nat} {B A : mB} {H : Heap} (h : lH D cy base x r n (B, A) H) : mJ B := by
  obtain ⟨w, -, -, hJ, -⟩ := h; exact hJ
theorem cq_regime (l : Launch) (hl9 : l.stackTraces = false) (D : va_G) (cy : Nat → ClassId) (base x : Nat) (r : Nat → Nat) (n : Nat) (B A : mB) (hinv : mInv B) (i : Nat) (hi : i < nP B) : Met l yX5_regime wsX5_regime ({ frames := 7, cells := 1, slots := 6, locals := 112 }) (zPc D cy base (lH D cy base x r n) [.ref x, .int (nI i)] (B, A)) (zQi base (lH D cy base x r n) (fun (r0 : Int32) (u0 : lU) => r0 = B 6 i ∧ u0 = (B, A))) 1 6 (fun q => base ≤ q) := by
  have h9 := l_convN (n := n) (r := r) (A := A) (cd := (cd_P B (nI i))) (an := (an_of B 6 (nI i))) (fun w ad hR hJ => c5_regime l hl9 D cy base w x ad B (nI i) hR hJ.1 hJ.2.1) (fun h _ => h) (cdP0 hinv hi) (fun E ht h0 => absurd (ht.1.symm.trans h0) (by decide))
  rw [show (an_of B 6 (nI i)) = B 6 i from (congrArg (B 6) (ix_nI (by have := hinv.1; omega)))] at h9
  exact h9
theorem cq_limit (l : Launch) (hl9 : l.stackTraces = false) (D : va_G) (cy : Nat → ClassId) (base x : Nat) (r : Nat → Nat) (n : Nat) (B A : mB) (hinv : mInv B) (i : Nat) (hi : i < nP B) : Met l yX5_limit wsX5_limit ({ frames := 7, cells := 6, slots := 70, locals := 112 }) (zPc D cy base (lH D cy base x r n) [.ref x, .int (nI i)] (B, A)) (zQi base (lH D cy base x r n) (fun (r0 : Int32) (u0 : lU) => r0 = sRest B i ∧ u0 = (B, A))) 6 70 (fun q => base ≤ q) := by
  have h9 := l_convN (n := n) (r := r) (A := A) (cd := (cd_P B (nI i))) (an := (an_limit B (nI i))) (fun w ad hR hJ => c5_limit l hl9 D cy base w x ad B (nI i) hR hJ.1 hJ.2.1) (fun h _ => h) (cdP0 hinv hi) (fun E ht h0 => absurd (ht.1.symm.trans h0) (by decide))
  rw [show (an_limit B (nI i)) = sRest B i from (congrArg (sRest B) (ix_nI (by have := hinv.1; omega)))] at h9
  exact h9
theorem cq_release (l : Launch) (hl9 : l.stackTraces = false) (D : va_G) (cy : Nat → ClassId) (base x : Nat) (r : Nat → Nat) (n : Nat) (B A : mB) (hinv : mInv B) (i : Nat) (hi : i < nP B) : Met l yX5_release wsX5_release ({ frames := 7, cells := 1, slots := 6, locals := 112 }) (zPc D cy base (lH D cy base x r n) [.ref x, .int (nI i)] (B, A)) (zQi base (lH D cy base x r n) (fun (r0 : Int32) (u0 : lU) => r0 = sRel B i ∧ u0 = (B, A))) 1 6 (fun q => base ≤ q) := by
  have h9 := l_convN (n := n) (r := r) (A := A) (cd := (cd_P B (nI i))) (an := (an_release B (nI i))) (fun w ad hR hJ => c5_release l hl9 D cy base w x ad B (nI i) hR hJ.1 hJ.2.1) (fun h _ => h) (cdP0 hinv hi) (fun E ht h0 => absurd (ht.1.symm.trans h0) (by decide))
  rw [show (an_release B (nI i)) = sRel B i from (congrArg (sRel B) (ix_nI (by have := hinv.1; omega)))] at h9
  exact h9
theorem cq_isIn (l : Launch) (hl9 : l.stackTraces = false) (D : va_G) (cy : Nat → ClassId) (base x : Nat) (r : Nat → Nat) (n : Nat) (B A : mB) (hinv : mInv B) (i : Nat) (hi : i < nP B) : Met l yX5_isIn wsX5_isIn ({ frames := 7, cells := 1, slots := 6, locals := 112 }) (zPc D cy base (lH D cy base x r n) [.ref x, .int (nI i)] (B, A)) (zQi base (lH D cy base x r n) (fun (r0 : Int32) (u0 : lU) => r0 = (if B 2 i = 0 then 1 else 0) ∧ u0 = (B, A))) 1 6 (fun q => base ≤ q) := by
  have h9 := l_convN (n := n) (r := r) (A := A) (cd := (cd_P B (nI i))) (an := (an_isIn B (nI i))) (fun w ad hR hJ => c5_isIn l hl9 D cy base w x ad B (nI i) hR hJ.1 hJ.2.1) (fun h _ => h) (cdP0 hinv hi) (fun E ht h0 => absurd (ht.1.symm.trans h0) (by decide))
  rw [show (an_isIn B (nI i)) = (if B 2 i = 0 then 1 else 0) from (show (if B 2 (ix (nI i)) = 0 then (1 : Int32) else 0) = _ by rw [ix_nI (by have := hinv.1; omega)])] at h9
  exact h9
theorem cq_papers0 (l : Launch) (hl9 : l.stackTraces = false) (D : va_G) (cy : Nat → ClassId) (base x : Nat) (r : Nat → Nat) (n : Nat) (B A : mB) (hinv : mInv B) (i : Nat) (hi : i < nP B) : Met l yX5_papers wsX5_papers ({ frames := 7, cells := 1, slots := 6, locals := 112 }) (zPc D cy base (lH D cy base x r n) [.ref x, .int (nI i), .int 0] (B, A)) (zQi base (lH D cy base x r n) (fun (r0 : Int32) (u0 : lU) => r0 = sGain B i ∧ u0 = (B, A))) 1 6 (fun q => base ≤ q) := by
  have h9 := l_convN (n := n) (r := r) (A := A) (cd := (cd_P B (nI i))) (an := (an_papers B (nI i) 0)) (fun w ad hR hJ => c5_papers l hl9 D cy base w x ad B (nI i) 0 hR hJ.1 hJ.2.1) (fun h _ => h) (cdP0 hinv hi) (fun E ht h0 => absurd (ht.1.symm.trans h0) (by decide))
  rw [show (an_papers B (nI i) 0) = sGain B i from (congrArg (sGain B) (ix_nI (by have := hinv.1; omega)))] at h9
  exact h9
theorem cq_papers1 (l : Launch) (hl9 : l.stackTraces = false) (D : va_G) (cy : Nat → ClassId) (base x : Nat) (r : Nat → Nat) (n : Nat) (B A : mB) (hinv : mInv B) (i : Nat) (hi : i < nP B) : Met l yX5_papers wsX5_papers ({ frames := 7, cells := 1, slots := 6, locals := 112 }) (zPc D cy base (lH D cy base x r n) [.ref x, .int (nI i), .int 1] (B, A)) (zQi base (lH D cy base x r n) (fun (r0 : Int32) (u0 : lU) => r0 = sLoss B i ∧ u0 = (B, A))) 1 6 (fun q => base ≤ q) := by
  have h9 := l_convN (n := n) (r := r) (A := A) (cd := (cd_P B (nI i))) (an := (an_papers B (nI i) 1)) (fun w ad hR hJ => c5_papers l hl9 D cy base w x ad B (nI i) 1 hR hJ.1 hJ.2.1) (fun h _ => h) (cdP0 hinv hi) (fun E ht h0 => absurd (ht.1.symm.trans h0) (by decide))
  rw [show (an_papers B (nI i) 1) = sLoss B i from (congrArg (sLoss B) (ix_nI (by have := hinv.1; omega)))] at h9
  exact h9
theorem cq_orderOf (l : Launch) (hl9 : l.stackTraces = false) (D : va_G) (cy : Nat → ClassId) (base x : Nat) (r : Nat → Nat) (n : Nat) (B A : mB) (hinv : mInv B) (i : Nat) (hi : i < nP B) : Met l yX5_orderOf wsX5_orderOf ({ frames := 7, cells := 1, slots := 6, locals := 112 }) (zPc D cy base (lH D cy base x r n) [.ref x, .int (nI i)] (B, A)) (zQi base (lH D cy base x r n) (fun (r0 : Int32) (u0 : lU) => r0 = B 11 i ∧ u0 = (B, A))) 1 6 (fun q => base ≤ q) := by
  have h9 := l_convN (n := n) (r := r) (A := A) (cd := (cd_P B (nI i))) (an := (an_of B 11 (nI i))) (fun w ad hR hJ => c5_orderOf l hl9 D cy base w x ad B (nI i) hR hJ.1 hJ.2.1) (fun h _ => h) (cdP0 hinv hi) (fun E ht h0 => absurd (ht.1.symm.trans h0) (by decide))
  rw [show (an_of B 11 (nI i)) = B 11 i from (congrArg (B 11) (ix_nI (by have := hinv.1; omega)))] at h9
  exact h9
theorem cq_paidOut (l : Launch) (hl9 : l.stackTraces = false) (D : va_G) (cy : Nat → ClassId) (base x : Nat) (r : Nat → Nat) (n : Nat) (B A : mB) (hinv : mInv B) (i : Nat) (hi : i < nP B) : Met l yX5_paidOut wsX5_paidOut ({ frames := 7, cells := 1, slots := 6, locals := 112 }) (zPc D cy base (lH D cy base x r n) [.ref x, .int (nI i)] (B, A)) (zQi base (lH D cy base x r n) (fun (r0 : Int32) (u0 : lU) => r0 = B 13 i ∧ u0 = (B, A))) 1 6 (fun q => base ≤ q) := by
  have h9 := l_convN (n := n) (r := r) (A := A) (cd := (cd_P B (nI i))) (an := (an_of B 13 (nI i))) (fun w ad hR hJ => c5_paidOut l hl9 D cy base w x ad B (nI i) hR hJ.1 hJ.2.1) (fun h _ => h) (cdP0 hinv hi) (fun E ht h0 => absurd (ht.1.symm.trans h0) (by decide))
  rw [show (an_of B 13 (nI i)) = B 13 i from (congrArg (B 13) (ix_nI (by have := hinv.1; omega)))] at h9
  exact h9
theorem cq_account (l : Launch) (hl9 : l.stackTraces = false) (D : va_G) (cy : Nat → ClassId) (base x : Nat) (r : Nat → Nat) (n : Nat) (B A : mB) (hinv : mInv B) (i j : Nat) (hi : i < nP B) (hj : j < 4) : Met l yX5_account wsX5_account ({ frames := 7, cells := 6, slots := 70, locals := 112 }) (zPc D cy base (lH D cy base x r n) [.ref x, .int (nI i), .int (nI j)] (B, A)) (zQi base (lH D cy base x r n) (fun (r0 : Int32) (u0 : lU) => r0 = B 14 (4 * i + j) ∧ u0 = (B, A))) 6 70 (fun q => base ≤ q) := by
  have h9 := l_convN (n := n) (r := r) (A := A) (cd := (cd_account B (nI i) (nI j))) (an := (an_account B (nI i) (nI j))) (fun w ad hR hJ => c5_account l hl9 D cy base w x ad B (nI i) (nI j) hR hJ.1 hJ.2.1) (fun h _ => h) (cdA0 hinv hi hj) (fun E ht h0 => absurd (ht.1.symm.trans h0) (by decide))
  rw [show (an_account B (nI i) (nI j)) = B 14 (4 * i + j) from (show B 14 (4 * ix (nI i) + ix (nI j)) = _ by rw [ix_nI (n := i) (by have := hinv.1; omega), ix_nI (n := j) (by omega)])] at h9
  exact h9
theorem cq_toolsOut (l : Launch) (hl9 : l.stackTraces = false) (D : va_G) (cy : Nat → ClassId) (base x : Nat) (r : Nat → Nat) (n : Nat) (B A : mB) (hinv : mInv B) (j : Nat) (hj : j < 3) : Met l yX5_toolsOut wsX5_toolsOut ({ frames := 7, cells := 1, slots := 6, locals := 112 }) (zPc D cy base (lH D cy base x r n) [.ref x, .int (nI j)] (B, A)) (zQi base (lH D cy base x r n) (fun (r0 : Int32) (u0 : lU) => r0 = sOut B (nI j) (nP B) ∧ u0 = (B, A))) 1 6 (fun q => base ≤ q) := by
  have h9 := l_convN (n := n) (r := r) (A := A) (cd := (cd_K B (nI j))) (an := (an_toolsOut B (nI j))) (fun w ad hR hJ => c5_toolsOut l hl9 D cy base w x ad B (nI j) hR hJ.1 hJ.2.1) (fun h _ => h) (cdK0 hj) (fun E ht h0 => absurd (ht.1.symm.trans h0) (by decide))
  rw [show (an_toolsOut B (nI j)) = sOut B (nI j) (nP B) from rfl] at h9
  exact h9
theorem cq_left (l : Launch) (hl9 : l.stackTraces = false) (D : va_G) (cy : Nat → ClassId) (base x : Nat) (r : Nat → Nat) (n : Nat) (B A : mB) (hinv : mInv B) (j : Nat) (hj : j < nO B) : Met l yX5_left wsX5_left ({ frames := 7, cells := 1, slots := 6, locals := 112 }) (zPc D cy base (lH D cy base x r n) [.ref x, .int (nI j)] (B, A)) (zQi base (lH D cy base x r n) (fun (r0 : Int32) (u0 : lU) => r0 = B 25 j ∧ u0 = (B, A))) 1 6 (fun q => base ≤ q) := by
  have h9 := l_convN (n := n) (r := r) (A := A) (cd := (cd_O B (nI j))) (an := (an_of B 25 (nI j))) (fun w ad hR hJ => c5_left l hl9 D cy base w x ad B (nI j) hR hJ.1 hJ.2.1) (fun h _ => h) (cdO0 hinv hj) (fun E ht h0 => absurd (ht.1.symm.trans h0) (by decide))
  rw [show (an_of B 25 (nI j)) = B 25 j from (congrArg (B 25) (ix_nI (by have := hinv.2.1; omega)))] at h9
  exact h9
theorem cq_pass (l : Launch) (hl9 : l.stackTraces = false) (D : va_G) (cy : Nat → ClassId) (base x : Nat) (r : Nat → Nat) (n : Nat) (B A : mB) : Met l yX5_pass wsX5_pass ({ frames := 7, cells := 1, slots := 6, locals := 112 }) (zPc D cy base (lH D cy base x r n) [.ref x, .int 1] (B, A)) (zQi base (lH D cy base x r n) (fun (r0 : Int32) (u0 : lU) => r0 = sGoesN (sMorn B) 0 (nP B) ∧ u0 = (sDay B, A))) 1 6 (fun q => base ≤ q) := by
  have h9 := l_convN (n := n) (r := r) (A := A) (cd := cd_pass B 1) (an := an_pass B 1) (B' := up_pass B 1) (fun w ad hR hJ => c5_pass l hl9 D cy base w x ad B 1 hR hJ.1 hJ.2.1 hJ.2.2) (fun h _ => J_pass h) (show (if vLies 1 1 100 = true then (0 : Int32) else 1) = 0 from rfl) (fun E ht h0 => absurd (ht.1.symm.trans h0) (by decide))
  exact h9
set_option maxHeartbeats 8000000 in
set_option maxRecDepth 100000 in
theorem zd_admit (l : Launch) (hl9 : l.stackTraces = false) (D : va_G) (cy : Nat → ClassId) (base x : Nat) (r : Nat → Nat) (n : Nat) (B A : mB) (a1 a2 a3 a4 : Int32) : vx_Met l yL_does wsL_does ({ frames := 8, cells := 8, slots := 100, locals := 135 }) (zPc D cy base (lH D cy base x r n) [.ref x, .int 0, .int a1, .int a2, .int a3, .int a4] (B, A)) (zQi base (lH D cy base x r n) (fun (r0 : Int32) (u0 : lU) => ((cd_admit B a1 a2) = 0 ∧ r0 = (an_admit B) ∧ u0 = ((up_admit B a1 a2), A)) ∨ ((cd_admit B a1 a2) = 1 ∧ r0 = (-20) ∧ u0 = (B, A)) ∨ ((cd_admit B a1 a2) = 2 ∧ r0 = (-10) ∧ u0 = (B, A)))) (zXC base (lH D cy base x r n) (fun (_ : String) (_ : lU) => False)) 8 100 (fun q => base ≤ q) := by
  refine vx_ofWH (cc := cL_does) (maxL := 7) (ret := (some .int)) (hh := [(0, 138, 139, 44), (0, 138, 144, 46), (0, 138, 149, 48)]) (by decide) rfl ?_
  intro p e s m args below meth c s₁ B9 hml hv
  obtain ⟨rfl, hA, hH⟩ := hv
  have hx := B9.exec
  have hb := B9.bytes
  have hr := B9.returns
  have hts := atoms_spec (ws := wsL_does) B9.pre
  have hown : s.vm.findClass RL = some m.cls := findClass_of_methodNamed B9.named
  have hlocks := B9.notSynchronized
  have htb : c.exceptionTable.toList = [⟨0, 138, 139, 44⟩, ⟨0, 138, 144, 46⟩, ⟨0, 138, 149, 48⟩] := vx_table (x := yL_does) B9 (hts (.codeWith yL_does cL_does 7 (some .int) [(0, 138, 139, 44), (0, 138, 144, 46), (0, 138, 149, 48)]) (by decide +kernel))
  have hS : va_S (fun q : Nat => base ≤ q) s.heap s.heap [] := va_S.rf
  have hl := lv_entry ([.ref x, .int 0, .int a1, .int a2, .int a3, .int a4]) (n := 7) (Nat.le_of_ble_eq_true rfl)
  rw [lg_entry_eq]
  generalize (lg_sl ([.ref x, .int 0, .int a1, .int a2, .int a3, .int a4]) ++ List.replicate (7 - (lg_sl ([.ref x, .int 0, .int a1, .int a2, .int a3, .int a4])).length) Slot.unset).toArray = ls at hl ⊢
  have hl : lv_has ls 7 [(0, .ref x), (1, .int 0), (2, .int a1), (3, .int a2), (4, .int a3), (5, .int a4)] := hl
  refine lv_iload_n hx hb dL_does_0 rfl (lv_at hl 1 rfl) ?_
  refine lv_if_ne (tgt := 13) hx hb dL_does_1 (by decide) (fun c_1 => absurd c_1 (by decide)) (fun _ => ?_)
  refine lv_aload_n hx hb dL_does_4 rfl (lv_at hl 0 rfl) ?_
  refine lv_iload_n hx hb dL_does_5 rfl (lv_at hl 2 rfl) ?_
  refine lv_iload_n hx hb dL_does_6 rfl (lv_at hl 3 rfl) ?_
  refine z_xcalli (vx_runV (As := [.int a1, .int a2]) (rest := []) ⟨hx, hb, hml, hown, hts⟩ (l_conv (n := n) (r := r) (A := A) (cd := (cd_admit B a1 a2)) (an := (an_admit B)) (B' := (up_admit B a1 a2)) (fun w ad hR hJ => c5_admit l hl9 D cy base w x ad B a1 a2 hR hJ.1 hJ.2.1 hJ.2.2) (fun h hc => JU_admit h hc)) (cwV 2 hts gL_does_X5_admit rfl rfl rfl (by decide +kernel) ⟨Nat.le_of_ble_eq_true rfl, Nat.le_of_ble_eq_true rfl⟩) (z_preV hA hS hH (l_recv hA hH)) rfl rfl hl.1 rfl (lv_room (Nat.le_of_ble_eq_true rfl)) dL_does_7 ⟨(by show _ ≤ (8 : Nat); omega), (by show _ ≤ (100 : Nat); omega)⟩) hS (fun E9 ce9 q9 u9 H locs hw9 hH hz9 hS hce9 hv9 hcl9 => ?_) (fun r9 u9 H locs hw9 hH hz9 hS => ?_)
  · obtain ⟨hthr, hu9⟩ := hw9
    rw [hu9] at hH
    rcases hthr with ⟨hc9, rfl⟩ | ⟨hc9, rfl⟩
    · refine vx_catch (name := zIae) hown [⟨0, 138, 139, 44⟩] ⟨0, 138, 144, 46⟩ [⟨0, 138, 149, 48⟩] htb (by
        intro z9 h9
        simp only [List.mem_cons, List.not_mem_nil, or_false] at h9
        rcases h9 with rfl
        · exact Or.inr ⟨by decide, zIob, hts (.classLink RL 44 zIob) (by decide +kernel), hA.2.2.2.2.2.2.2.2.1⟩) rfl (by decide) (hts (.classLink RL 46 zIae) (by decide +kernel)) (castable_self hcl9) hce9 hv9 hcl9 ?_
      refine W.eq (g2 := F0 m 144 ls [.ref q9]) rfl ?_
      refine lv_astore (lv' := [(6, .ref q9), (0, .ref x), (1, .int 0), (2, .int a1), (3, .int a2), (4, .int a3), (5, .int a4)]) hx hb dL_does_144 hl (by decide) rfl (fun ls hl => ?_)
      refine lv_bipush (v := (-20)) hx hb dL_does_146 (by decide) ?_
      refine vx_ret ?_
      exact z_iret hx hb hr hlocks hH hS (Or.inr (Or.inl (⟨hc9, rfl, rfl⟩))) (by omega) (by omega) dL_does_148
    · refine vx_catch (name := zIse) hown [⟨0, 138, 139, 44⟩, ⟨0, 138, 144, 46⟩] ⟨0, 138, 149, 48⟩ [] htb (by
        intro z9 h9
        simp only [List.mem_cons, List.not_mem_nil, or_false] at h9
        rcases h9 with rfl | rfl
        · exact Or.inr ⟨by decide, zIob, hts (.classLink RL 44 zIob) (by decide +kernel), hA.2.2.2.2.2.2.1⟩
        · exact Or.inr ⟨by decide, zIae, hts (.classLink RL 46 zIae) (by decide +kernel), hA.2.2.2.2.2.2.2.1⟩) rfl (by decide) (hts (.classLink RL 48 zIse) (by decide +kernel)) (castable_self hcl9) hce9 hv9 hcl9 ?_
      refine W.eq (g2 := F0 m 149 ls [.ref q9]) rfl ?_
      refine lv_astore (lv' := [(6, .ref q9), (0, .ref x), (1, .int 0), (2, .int a1), (3, .int a2), (4, .int a3), (5, .int a4)]) hx hb dL_does_149 hl (by decide) rfl (fun ls hl => ?_)
      refine lv_bipush (v := (-10)) hx hb dL_does_151 (by decide) ?_
      refine vx_ret ?_
      exact z_iret hx hb hr hlocks hH hS (Or.inr (Or.inr (⟨hc9, rfl, rfl⟩))) (by omega) (by omega) dL_does_153
  · obtain ⟨hc9, rfl, hu9⟩ := hw9
    rw [hu9] at hH
    refine lv_goto (tgt := 138) hx hb dL_does_10 (by decide) ?_
    refine vx_ret ?_
    exact z_iret hx hb hr hlocks hH hS (Or.inl (⟨hc9, rfl, rfl⟩)) (by omega) (by omega) dL_does_138
set_option maxHeartbeats 8000000 in
set_option maxRecDepth 100000 in
theorem zd_course (l : Launch) (hl9 : l.stackTraces = false) (D : va_G) (cy : Nat → ClassId) (base x : Nat) (r : Nat → Nat) (n : Nat) (B A : mB) (a1 a2 a3 a4 : Int32) : vx_Met l yL_does wsL_does ({ frames := 8, cells := 6, slots := 70, locals := 136 }) (zPc D cy base (lH D cy base x r n) [.ref x, .int 1, .int a1, .int a2, .int a3, .int a4] (B, A)) (zQi base (lH D cy base x r n) (fun (r0 : Int32) (u0 : lU) => ((cd_course B a1 a2 a3) = 0 ∧ r0 = (an_course B a1 a2 a3) ∧ u0 = ((up_course B a1 a2 a3), A)) ∨ ((cd_course B a1 a2 a3) = 1 ∧ r0 = (-30) ∧ u0 = (B, A)) ∨ ((cd_course B a1 a2 a3) = 2 ∧ r0 = (-20) ∧ u0 = (B, A)) ∨ ((cd_course B a1 a2 a3) = 3 ∧ r0 = (-10) ∧ u0 = (B, A)))) (zXC base (lH D cy base x r n) (fun (_ : String) (_ : lU) => False)) 6 70 (fun q => base ≤ q) := by
  refine vx_ofWH (cc := cL_does) (maxL := 7) (ret := (some .int)) (hh := [(0, 138, 139, 44), (0, 138, 144, 46), (0, 138, 149, 48)]) (by decide) rfl ?_
  intro p e s m args below meth c s₁ B9 hml hv
  obtain ⟨rfl, hA, hH⟩ := hv
  have hx := B9.exec
  have hb := B9.bytes
  have hr := B9.returns
  have hts := atoms_spec (ws := wsL_does) B9.pre
  have hown : s.vm.findClass RL = some m.cls := findClass_of_methodNamed B9.named
  have hlocks := B9.notSynchronized
  have htb : c.exceptionTable.toList = [⟨0, 138, 139, 44⟩, ⟨0, 138, 144, 46⟩, ⟨0, 138, 149, 48⟩] := vx_table (x := yL_does) B9 (hts (.codeWith yL_does cL_does 7 (some .int) [(0, 138, 139, 44), (0, 138, 144, 46), (0, 138, 149, 48)]) (by decide +kernel))
  have hS : va_S (fun q : Nat => base ≤ q) s.heap s.heap [] := va_S.rf
  have hl := lv_entry ([.ref x, .int 1, .int a1, .int a2, .int a3, .int a4]) (n := 7) (Nat.le_of_ble_eq_true rfl)
  rw [lg_entry_eq]
  generalize (lg_sl ([.ref x, .int 1, .int a1, .int a2, .int a3, .int a4]) ++ List.replicate (7 - (lg_sl ([.ref x, .int 1, .int a1, .int a2, .int a3, .int a4])).length) Slot.unset).toArray = ls at hl ⊢
  have hl : lv_has ls 7 [(0, .ref x), (1, .int 1), (2, .int a1), (3, .int a2), (4, .int a3), (5, .int a4)] := hl
  refine lv_iload_n hx hb dL_does_0 rfl (lv_at hl 1 rfl) ?_
  refine lv_if_ne (tgt := 13) hx hb dL_does_1 (by decide) (fun _ => ?_) (fun c_1 => absurd c_1 (by decide))
  refine lv_iload_n hx hb dL_does_13 rfl (lv_at hl 1 rfl) ?_
  refine lv_iconst (v := 1) hx hb dL_does_14 (by decide) ?_
  refine lv_icmp_ne (tgt := 29) hx hb dL_does_15 (by decide) (fun c_2 => absurd c_2 (by decide)) (fun _ => ?_)
  refine lv_aload_n hx hb dL_does_18 rfl (lv_at hl 0 rfl) ?_
  refine lv_iload_n hx hb dL_does_19 rfl (lv_at hl 2 rfl) ?_
  refine lv_iload_n hx hb dL_does_20 rfl (lv_at hl 3 rfl) ?_
  refine lv_iload hx hb dL_does_21 (lv_at hl 4 rfl) ?_
  refine z_xcalli (vx_runV (As := [.int a1, .int a2, .int a3]) (rest := []) ⟨hx, hb, hml, hown, hts⟩ (l_conv (n := n) (r := r) (A := A) (cd := (cd_course B a1 a2 a3)) (an := (an_course B a1 a2 a3)) (B' := (up_course B a1 a2 a3)) (fun w ad hR hJ => c5_course l hl9 D cy base w x ad B a1 a2 a3 hR hJ.1 hJ.2.1) (fun h hc => JU_course h hc)) (cwV 3 hts gL_does_X5_course rfl rfl rfl (by decide +kernel) ⟨Nat.le_of_ble_eq_true rfl, Nat.le_of_ble_eq_true rfl⟩) (z_preV hA hS hH (l_recv hA hH)) rfl rfl hl.1 rfl (lv_room (Nat.le_of_ble_eq_true rfl)) dL_does_23 ⟨(by show _ ≤ (6 : Nat); omega), (by show _ ≤ (70 : Nat); omega)⟩) hS (fun E9 ce9 q9 u9 H locs hw9 hH hz9 hS hce9 hv9 hcl9 => ?_) (fun r9 u9 H locs hw9 hH hz9 hS => ?_)
  · obtain ⟨hthr, hu9⟩ := hw9
    rw [hu9] at hH
    rcases hthr with ⟨hc9, rfl⟩ | ⟨hc9, rfl⟩ | ⟨hc9, rfl⟩
    · refine vx_catch (name := zIob) hown [] ⟨0, 138, 139, 44⟩ [⟨0, 138, 144, 46⟩, ⟨0, 138, 149, 48⟩] htb (fun z9 h9 => nomatch h9) rfl (by decide) (hts (.classLink RL 44 zIob) (by decide +kernel)) (castable_self hcl9) hce9 hv9 hcl9 ?_
      refine W.eq (g2 := F0 m 139 ls [.ref q9]) rfl ?_
      refine lv_astore (lv' := [(6, .ref q9), (0, .ref x), (1, .int 1), (2, .int a1), (3, .int a2), (4, .int a3), (5, .int a4)]) hx hb dL_does_139 hl (by decide) rfl (fun ls hl => ?_)
      refine lv_bipush (v := (-30)) hx hb dL_does_141 (by decide) ?_
      refine vx_ret ?_
      exact z_iret hx hb hr hlocks hH hS (Or.inr (Or.inl (⟨hc9, rfl, rfl⟩))) (by omega) (by omega) dL_does_143
    · refine vx_catch (name := zIae) hown [⟨0, 138, 139, 44⟩] ⟨0, 138, 144, 46⟩ [⟨0, 138, 149, 48⟩] htb (by
        intro z9 h9
        simp only [List.mem_cons, List.not_mem_nil, or_false] at h9
        rcases h9 with rfl
        · exact Or.inr ⟨by decide, zIob, hts (.classLink RL 44 zIob) (by decide +kernel), hA.2.2.2.2.2.2.2.2.1⟩) rfl (by decide) (hts (.classLink RL 46 zIae) (by decide +kernel)) (castable_self hcl9) hce9 hv9 hcl9 ?_
      refine W.eq (g2 := F0 m 144 ls [.ref q9]) rfl ?_
      refine lv_astore (lv' := [(6, .ref q9), (0, .ref x), (1, .int 1), (2, .int a1), (3, .int a2), (4, .int a3), (5, .int a4)]) hx hb dL_does_144 hl (by decide) rfl (fun ls hl => ?_)
      refine lv_bipush (v := (-20)) hx hb dL_does_146 (by decide) ?_
      refine vx_ret ?_
      exact z_iret hx hb hr hlocks hH hS (Or.inr (Or.inr (Or.inl (⟨hc9, rfl, rfl⟩)))) (by omega) (by omega) dL_does_148
    · refine vx_catch (name := zIse) hown [⟨0, 138, 139, 44⟩, ⟨0, 138, 144, 46⟩] ⟨0, 138, 149, 48⟩ [] htb (by
        intro z9 h9
        simp only [List.mem_cons, List.not_mem_nil, or_false] at h9
        rcases h9 with rfl | rfl
        · exact Or.inr ⟨by decide, zIob, hts (.classLink RL 44 zIob) (by decide +kernel), hA.2.2.2.2.2.2.1⟩
        · exact Or.inr ⟨by decide, zIae, hts (.classLink RL 46 zIae) (by decide +kernel), hA.2.2.2.2.2.2.2.1⟩) rfl (by decide) (hts (.classLink RL 48 zIse) (by decide +kernel)) (castable_self hcl9) hce9 hv9 hcl9 ?_
      refine W.eq (g2 := F0 m 149 ls [.ref q9]) rfl ?_
      refine lv_astore (lv' := [(6, .ref q9), (0, .ref x), (1, .int 1), (2, .int a1), (3, .int a2), (4, .int a3), (5, .int a4)]) hx hb dL_does_149 hl (by decide) rfl (fun ls hl => ?_)
      refine lv_bipush (v := (-10)) hx hb dL_does_151 (by decide) ?_
      refine vx_ret ?_
      exact z_iret hx hb hr hlocks hH hS (Or.inr (Or.inr (Or.inr (⟨hc9, rfl, rfl⟩)))) (by omega) (by omega) dL_does_153
  · obtain ⟨hc9, rfl, hu9⟩ := hw9
    rw [hu9] at hH
    refine lv_goto (tgt := 138) hx hb dL_does_26 (by decide) ?_
    refine vx_ret ?_
    exact z_iret hx hb hr hlocks hH hS (Or.inl (⟨hc9, rfl, rfl⟩)) (by omega) (by omega) dL_does_138
set_option maxHeartbeats 8000000 in
set_option maxRecDepth 100000 in
theorem zd_offence (l : Launch) (hl9 : l.stackTraces = false) (D : va_G) (cy : Nat → ClassId) (base x : Nat) (r : Nat → Nat) (n : Nat) (B A : mB) (a1 a2 a3 a4 : Int32) : vx_Met l yL_does wsL_does ({ frames := 8, cells := 6, slots := 70, locals := 137 }) (zPc D cy base (lH D cy base x r n) [.ref x, .int 2, .int a1, .int a2, .int a3, .int a4] (B, A)) (zQi base (lH D cy base x r n) (fun (r0 : Int32) (u0 : lU) => ((cd_offence B a1 a2) = 0 ∧ r0 = (an_offence B a1) ∧ u0 = ((up_offence B a1 a2), A)) ∨ ((cd_offence B a1 a2) = 1 ∧ r0 = (-30) ∧ u0 = (B, A)) ∨ ((cd_offence B a1 a2) = 2 ∧ r0 = (-20) ∧ u0 = (B, A)) ∨ ((cd_offence B a1 a2) = 3 ∧ r0 = (-10) ∧ u0 = (B, A)))) (zXC base (lH D cy base x r n) (fun (_ : String) (_ : lU) => False)) 6 70 (fun q => base ≤ q) := by
  refine vx_ofWH (cc := cL_does) (maxL := 7) (ret := (some .int)) (hh := [(0, 138, 139, 44), (0, 138, 144, 46), (0, 138, 149, 48)]) (by decide) rfl ?_
  intro p e s m args below meth c s₁ B9 hml hv
  obtain ⟨rfl, hA, hH⟩ := hv
  have hx := B9.exec
  have hb := B9.bytes
  have hr := B9.returns
  have hts := atoms_spec (ws := wsL_does) B9.pre
  have hown : s.vm.findClass RL = some m.cls := findClass_of_methodNamed B9.named
  have hlocks := B9.notSynchronized
  have htb : c.exceptionTable.toList = [⟨0, 138, 139, 44⟩, ⟨0, 138, 144, 46⟩, ⟨0, 138, 149, 48⟩] := vx_table (x := yL_does) B9 (hts (.codeWith yL_does cL_does 7 (some .int) [(0, 138, 139, 44), (0, 138, 144, 46), (0, 138, 149, 48)]) (by decide +kernel))
  have hS : va_S (fun q : Nat => base ≤ q) s.heap s.heap [] := va_S.rf
  have hl := lv_entry ([.ref x, .int 2, .int a1, .int a2, .int a3, .int a4]) (n := 7) (Nat.le_of_ble_eq_true rfl)
  rw [lg_entry_eq]
  generalize (lg_sl ([.ref x, .int 2, .int a1, .int a2, .int a3, .int a4]) ++ List.replicate (7 - (lg_sl ([.ref x, .int 2, .int a1, .int a2, .int a3, .int a4])).length) Slot.unset).toArray = ls at hl ⊢
  have hl : lv_has ls 7 [(0, .ref x), (1, .int 2), (2, .int a1), (3, .int a2), (4, .int a3), (5, .int a4)] := hl
  refine lv_iload_n hx hb dL_does_0 rfl (lv_at hl 1 rfl) ?_
  refine lv_if_ne (tgt := 13) hx hb dL_does_1 (by decide) (fun _ => ?_) (fun c_1 => absurd c_1 (by decide))
  refine lv_iload_n hx hb dL_does_13 rfl (lv_at hl 1 rfl) ?_
  refine lv_iconst (v := 1) hx hb dL_does_14 (by decide) ?_
  refine lv_icmp_ne (tgt := 29) hx hb dL_does_15 (by decide) (fun _ => ?_) (fun c_2 => absurd c_2 (by decide))
  refine lv_iload_n hx hb dL_does_29 rfl (lv_at hl 1 rfl) ?_
  refine lv_iconst (v := 2) hx hb dL_does_30 (by decide) ?_
  refine lv_icmp_ne (tgt := 43) hx hb dL_does_31 (by decide) (fun c_3 => absurd c_3 (by decide)) (fun _ => ?_)
  refine lv_aload_n hx hb dL_does_34 rfl (lv_at hl 0 rfl) ?_
  refine lv_iload_n hx hb dL_does_35 rfl (lv_at hl 2 rfl) ?_
  refine lv_iload_n hx hb dL_does_36 rfl (lv_at hl 3 rfl) ?_
  refine z_xcalli (vx_runV (As := [.int a1, .int a2]) (rest := []) ⟨hx, hb, hml, hown, hts⟩ (l_conv (n := n) (r := r) (A := A) (cd := (cd_offence B a1 a2)) (an := (an_offence B a1)) (B' := (up_offence B a1 a2)) (fun w ad hR hJ => c5_offence l hl9 D cy base w x ad B a1 a2 hR hJ.1 hJ.2.1) (fun h hc => JU_offence h hc)) (cwV 2 hts gL_does_X5_offence rfl rfl rfl (by decide +kernel) ⟨Nat.le_of_ble_eq_true rfl, Nat.le_of_ble_eq_true rfl⟩) (z_preV hA hS hH (l_recv hA hH)) rfl rfl hl.1 rfl (lv_room (Nat.le_of_ble_eq_true rfl)) dL_does_37 ⟨(by show _ ≤ (6 : Nat); omega), (by show _ ≤ (70 : Nat); omega)⟩) hS (fun E9 ce9 q9 u9 H locs hw9 hH hz9 hS hce9 hv9 hcl9 => ?_) (fun r9 u9 H locs hw9 hH hz9 hS => ?_)
  · obtain ⟨hthr, hu9⟩ := hw9
    rw [hu9] at hH
    rcases hthr with ⟨hc9, rfl⟩ | ⟨hc9, rfl⟩ | ⟨hc9, rfl⟩
    · refine vx_catch (name := zIob) hown [] ⟨0, 138, 139, 44⟩ [⟨0, 138, 144, 46⟩, ⟨0, 138, 149, 48⟩] htb (fun z9 h9 => nomatch h9) rfl (by decide) (hts (.classLink RL 44 zIob) (by decide +kernel)) (castable_self hcl9) hce9 hv9 hcl9 ?_
      refine W.eq (g2 := F0 m 139 ls [.ref q9]) rfl ?_
      refine lv_astore (lv' := [(6, .ref q9), (0, .ref x), (1, .int 2), (2, .int a1), (3, .int a2), (4, .int a3), (5, .int a4)]) hx hb dL_does_139 hl (by decide) rfl (fun ls hl => ?_)
      refine lv_bipush (v := (-30)) hx hb dL_does_141 (by decide) ?_
      refine vx_ret ?_
      exact z_iret hx hb hr hlocks hH hS (Or.inr (Or.inl (⟨hc9, rfl, rfl⟩))) (by omega) (by omega) dL_does_143
    · refine vx_catch (name := zIae) hown [⟨0, 138, 139, 44⟩] ⟨0, 138, 144, 46⟩ [⟨0, 138, 149, 48⟩] htb (by
        intro z9 h9
        simp only [List.mem_cons, List.not_mem_nil, or_false] at h9
        rcases h9 with rfl
        · exact Or.inr ⟨by decide, zIob, hts (.classLink RL 44 zIob) (by decide +kernel), hA.2.2.2.2.2.2.2.2.1⟩) rfl (by decide) (hts (.classLink RL 46 zIae) (by decide +kernel)) (castable_self hcl9) hce9 hv9 hcl9 ?_
      refine W.eq (g2 := F0 m 144 ls [.ref q9]) rfl ?_
      refine lv_astore (lv' := [(6, .ref q9), (0, .ref x), (1, .int 2), (2, .int a1), (3, .int a2), (4, .int a3), (5, .int a4)]) hx hb dL_does_144 hl (by decide) rfl (fun ls hl => ?_)
      refine lv_bipush (v := (-20)) hx hb dL_does_146 (by decide) ?_
      refine vx_ret ?_
      exact z_iret hx hb hr hlocks hH hS (Or.inr (Or.inr (Or.inl (⟨hc9, rfl, rfl⟩)))) (by omega) (by omega) dL_does_148
    · refine vx_catch (name := zIse) hown [⟨0, 138, 139, 44⟩, ⟨0, 138, 144, 46⟩] ⟨0, 138, 149, 48⟩ [] htb (by
        intro z9 h9
        simp only [List.mem_cons, List.not_mem_nil, or_false] at h9
        rcases h9 with rfl | rfl
        · exact Or.inr ⟨by decide, zIob, hts (.classLink RL 44 zIob) (by decide +kernel), hA.2.2.2.2.2.2.1⟩
        · exact Or.inr ⟨by decide, zIae, hts (.classLink RL 46 zIae) (by decide +kernel), hA.2.2.2.2.2.2.2.1⟩) rfl (by decide) (hts (.classLink RL 48 zIse) (by decide +kernel)) (castable_self hcl9) hce9 hv9 hcl9 ?_
      refine W.eq (g2 := F0 m 149 ls [.ref q9]) rfl ?_
      refine lv_astore (lv' := [(6, .ref q9), (0, .ref x), (1, .int 2), (2, .int a1), (3, .int a2), (4, .int a3), (5, .int a4)]) hx hb dL_does_149 hl (by decide) rfl (fun ls hl => ?_)
      refine lv_bipush (v := (-10)) hx hb dL_does_151 (by decide) ?_
      refine vx_ret ?_
      exact z_iret hx hb hr hlocks hH hS (Or.inr (Or.inr (Or.inr (⟨hc9, rfl, rfl⟩)))) (by omega) (by omega) dL_does_153
  · obtain ⟨hc9, rfl, hu9⟩ := hw9
    rw [hu9] at hH
    refine lv_goto (tgt := 138) hx hb dL_does_40 (by decide) ?_
    refine vx_ret ?_
    exact z_iret hx hb hr hlocks hH hS (Or.inl (⟨hc9, rfl, rfl⟩)) (by omega) (by omega) dL_does_138
set_option maxHeartbeats 8000000 in
set_option maxRecDepth 100000 in
theorem zd_appeal (l : Launch) (hl9 : l.stackTraces = false) (D : va_G) (cy : Nat → ClassId) (base x : Nat) (r : Nat → Nat) (n : Nat) (B A : mB) (a1 a2 a3 a4 : Int32) : vx_Met l yL_does wsL_does ({ frames := 8, cells := 6, slots := 70, locals := 136 }) (zPc D cy base (lH D cy base x r n) [.ref x, .int 3, .int a1, .int a2, .int a3, .int a4] (B, A)) (zQi base (lH D cy base x r n) (fun (r0 : Int32) (u0 : lU) => ((cd_appeal B a1 a2) = 0 ∧ r0 = (an_appeal B a1 a2) ∧ u0 = ((up_appeal B a1 a2), A)) ∨ ((cd_appeal B a1 a2) = 1 ∧ r0 = (-30) ∧ u0 = (B, A)) ∨ ((cd_appeal B a1 a2) = 2 ∧ r0 = (-10) ∧ u0 = (B, A)))) (zXC base (lH D cy base x r n) (fun (_ : String) (_ : lU) => False)) 6 70 (fun q => base ≤ q) := by
  refine vx_ofWH (cc := cL_does) (maxL := 7) (ret := (some .int)) (hh := [(0, 138, 139, 44), (0, 138, 144, 46), (0, 138, 149, 48)]) (by decide) rfl ?_
  intro p e s m args below meth c s₁ B9 hml hv
  obtain ⟨rfl, hA, hH⟩ := hv
  have hx := B9.exec
  have hb := B9.bytes
  have hr := B9.returns
  have hts := atoms_spec (ws := wsL_does) B9.pre
  have hown : s.vm.findClass RL = some m.cls := findClass_of_methodNamed B9.named
  have hlocks := B9.notSynchronized
  have htb : c.exceptionTable.toList = [⟨0, 138, 139, 44⟩, ⟨0, 138, 144, 46⟩, ⟨0, 138, 149, 48⟩] := vx_table (x := yL_does) B9 (hts (.codeWith yL_does cL_does 7 (some .int) [(0, 138, 139, 44), (0, 138, 144, 46), (0, 138, 149, 48)]) (by decide +kernel))
  have hS : va_S (fun q : Nat => base ≤ q) s.heap s.heap [] := va_S.rf
  have hl := lv_entry ([.ref x, .int 3, .int a1, .int a2, .int a3, .int a4]) (n := 7) (Nat.le_of_ble_eq_true rfl)
  rw [lg_entry_eq]
  generalize (lg_sl ([.ref x, .int 3, .int a1, .int a2, .int a3, .int a4]) ++ List.replicate (7 - (lg_sl ([.ref x, .int 3, .int a1, .int a2, .int a3, .int a4])).length) Slot.unset).toArray = ls at hl ⊢
  have hl : lv_has ls 7 [(0, .ref x), (1, .int 3), (2, .int a1), (3, .int a2), (4, .int a3), (5, .int a4)] := hl
  refine lv_iload_n hx hb dL_does_0 rfl (lv_at hl 1 rfl) ?_
  refine lv_if_ne (tgt := 13) hx hb dL_does_1 (by decide) (fun _ => ?_) (fun c_1 => absurd c_1 (by decide))
  refine lv_iload_n hx hb dL_does_13 rfl (lv_at hl 1 rfl) ?_
  refine lv_iconst (v := 1) hx hb dL_does_14 (by decide) ?_
  refine lv_icmp_ne (tgt := 29) hx hb dL_does_15 (by decide) (fun _ => ?_) (fun c_2 => absurd c_2 (by decide))
  refine lv_iload_n hx hb dL_does_29 rfl (lv_at hl 1 rfl) ?_
  refine lv_iconst (v := 2) hx hb dL_does_30 (by decide) ?_
  refine lv_icmp_ne (tgt := 43) hx hb dL_does_31 (by decide) (fun _ => ?_) (fun c_3 => absurd c_3 (by decide))
  refine lv_iload_n hx hb dL_does_43 rfl (lv_at hl 1 rfl) ?_
  refine lv_iconst (v := 3) hx hb dL_does_44 (by decide) ?_
  refine lv_icmp_ne (tgt := 57) hx hb dL_does_45 (by decide) (fun c_4 => absurd c_4 (by decide)) (fun _ => ?_)
  refine lv_aload_n hx hb dL_does_48 rfl (lv_at hl 0 rfl) ?_
  refine lv_iload_n hx hb dL_does_49 rfl (lv_at hl 2 rfl) ?_
  refine lv_iload_n hx hb dL_does_50 rfl (lv_at hl 3 rfl) ?_
  refine z_xcalli (vx_runV (As := [.int a1, .int a2]) (rest := []) ⟨hx, hb, hml, hown, hts⟩ (l_conv (n := n) (r := r) (A := A) (cd := (cd_appeal B a1 a2)) (an := (an_appeal B a1 a2)) (B' := (up_appeal B a1 a2)) (fun w ad hR hJ => c5_appeal l hl9 D cy base w x ad B a1 a2 hR hJ.1 hJ.2.1) (fun h hc => JU_appeal h hc)) (cwV 2 hts gL_does_X5_appeal rfl rfl rfl (by decide +kernel) ⟨Nat.le_of_ble_eq_true rfl, Nat.le_of_ble_eq_true rfl⟩) (z_preV hA hS hH (l_recv hA hH)) rfl rfl hl.1 rfl (lv_room (Nat.le_of_ble_eq_true rfl)) dL_does_51 ⟨(by show _ ≤ (6 : Nat); omega), (by show _ ≤ (70 : Nat); omega)⟩) hS (fun E9 ce9 q9 u9 H locs hw9 hH hz9 hS hce9 hv9 hcl9 => ?_) (fun r9 u9 H locs hw9 hH hz9 hS => ?_)
  · obtain ⟨hthr, hu9⟩ := hw9
    rw [hu9] at hH
    rcases hthr with ⟨hc9, rfl⟩ | ⟨hc9, rfl⟩
    · refine vx_catch (name := zIob) hown [] ⟨0, 138, 139, 44⟩ [⟨0, 138, 144, 46⟩, ⟨0, 138, 149, 48⟩] htb (fun z9 h9 => nomatch h9) rfl (by decide) (hts (.classLink RL 44 zIob) (by decide +kernel)) (castable_self hcl9) hce9 hv9 hcl9 ?_
      refine W.eq (g2 := F0 m 139 ls [.ref q9]) rfl ?_
      refine lv_astore (lv' := [(6, .ref q9), (0, .ref x), (1, .int 3), (2, .int a1), (3, .int a2), (4, .int a3), (5, .int a4)]) hx hb dL_does_139 hl (by decide) rfl (fun ls hl => ?_)
      refine lv_bipush (v := (-30)) hx hb dL_does_141 (by decide) ?_
      refine vx_ret ?_
      exact z_iret hx hb hr hlocks hH hS (Or.inr (Or.inl (⟨hc9, rfl, rfl⟩))) (by omega) (by omega) dL_does_143
    · refine vx_catch (name := zIse) hown [⟨0, 138, 139, 44⟩, ⟨0, 138, 144, 46⟩] ⟨0, 138, 149, 48⟩ [] htb (by
        intro z9 h9
        simp only [List.mem_cons, List.not_mem_nil, or_false] at h9
        rcases h9 with rfl | rfl
        · exact Or.inr ⟨by decide, zIob, hts (.classLink RL 44 zIob) (by decide +kernel), hA.2.2.2.2.2.2.1⟩
        · exact Or.inr ⟨by decide, zIae, hts (.classLink RL 46 zIae) (by decide +kernel), hA.2.2.2.2.2.2.2.1⟩) rfl (by decide) (hts (.classLink RL 48 zIse) (by decide +kernel)) (castable_self hcl9) hce9 hv9 hcl9 ?_
      refine W.eq (g2 := F0 m 149 ls [.ref q9]) rfl ?_
      refine lv_astore (lv' := [(6, .ref q9), (0, .ref x), (1, .int 3), (2, .int a1), (3, .int a2), (4, .int a3), (5, .int a4)]) hx hb dL_does_149 hl (by decide) rfl (fun ls hl => ?_)
      refine lv_bipush (v := (-10)) hx hb dL_does_151 (by decide) ?_
      refine vx_ret ?_
      exact z_iret hx hb hr hlocks hH hS (Or.inr (Or.inr (⟨hc9, rfl, rfl⟩))) (by omega) (by omega) dL_does_153
  · obtain ⟨hc9, rfl, hu9⟩ := hw9
    rw [hu9] at hH
    refine lv_goto (tgt := 138) hx hb dL_does_54 (by decide) ?_
    refine vx_ret ?_
    exact z_iret hx hb hr hlocks hH hS (Or.inl (⟨hc9, rfl, rfl⟩)) (by omega) (by omega) dL_does_138
set_option maxHeartbeats 8000000 in
set_option maxRecDepth 100000 in
theorem zd_setTools (l : Launch) (hl9 : l.stackTraces = false) (D : va_G) (cy : Nat → ClassId) (base x : Nat) (r : Nat → Nat) (n : Nat) (B A : mB) (a1 a2 a3 a4 : Int32) : vx_Met l yL_does wsL_does ({ frames := 8, cells := 6, slots := 70, locals := 136 }) (zPc D cy base (lH D cy base x r n) [.ref x, .int 4, .int a1, .int a2, .int a3, .int a4] (B, A)) (zQi base (lH D cy base x r n) (fun (r0 : Int32) (u0 : lU) => ((cd_setTools B a1 a2) = 0 ∧ r0 = (an_setTools B a1) ∧ u0 = ((up_setTools B a1 a2), A)) ∨ ((cd_setTools B a1 a2) = 1 ∧ r0 = (-30) ∧ u0 = (B, A)) ∨ ((cd_setTools B a1 a2) = 2 ∧ r0 = (-20) ∧ u0 = (B, A)) ∨ ((cd_setTools B a1 a2) = 3 ∧ r0 = (-10) ∧ u0 = (B, A)))) (zXC base (lH D cy base x r n) (fun (_ : String) (_ : lU) => False)) 6 70 (fun q => base ≤ q) := by
  refine vx_ofWH (cc := cL_does) (maxL := 7) (ret := (some .int)) (hh := [(0, 138, 139, 44), (0, 138, 144, 46), (0, 138, 149, 48)]) (by decide) rfl ?_
  intro p e s m args below meth c s₁ B9 hml hv
  obtain ⟨rfl, hA, hH⟩ := hv
  have hx := B9.exec
  have hb := B9.bytes
  have hr := B9.returns
  have hts := atoms_spec (ws := wsL_does) B9.pre
  have hown : s.vm.findClass RL = some m.cls := findClass_of_methodNamed B9.named
  have hlocks := B9.notSynchronized
  have htb : c.exceptionTable.toList = [⟨0, 138, 139, 44⟩, ⟨0, 138, 144, 46⟩, ⟨0, 138, 149, 48⟩] := vx_table (x := yL_does) B9 (hts (.codeWith yL_does cL_does 7 (some .int) [(0, 138, 139, 44), (0, 138, 144, 46), (0, 138, 149, 48)]) (by decide +kernel))
  have hS : va_S (fun q : Nat => base ≤ q) s.heap s.heap [] := va_S.rf
  have hl := lv_entry ([.ref x, .int 4, .int a1, .int a2, .int a3, .int a4]) (n := 7) (Nat.le_of_ble_eq_true rfl)
  rw [lg_entry_eq]
  generalize (lg_sl ([.ref x, .int 4, .int a1, .int a2, .int a3, .int a4]) ++ List.replicate (7 - (lg_sl ([.ref x, .int 4, .int a1, .int a2, .int a3, .int a4])).length) Slot.unset).toArray = ls at hl ⊢
  have hl : lv_has ls 7 [(0, .ref x), (1, .int 4), (2, .int a1), (3, .int a2), (4, .int a3), (5, .int a4)] := hl
  refine lv_iload_n hx hb dL_does_0 rfl (lv_at hl 1 rfl) ?_
  refine lv_if_ne (tgt := 13) hx hb dL_does_1 (by decide) (fun _ => ?_) (fun c_1 => absurd c_1 (by decide))
  refine lv_iload_n hx hb dL_does_13 rfl (lv_at hl 1 rfl) ?_
  refine lv_iconst (v := 1) hx hb dL_does_14 (by decide) ?_
  refine lv_icmp_ne (tgt := 29) hx hb dL_does_15 (by decide) (fun _ => ?_) (fun c_2 => absurd c_2 (by decide))
  refine lv_iload_n hx hb dL_does_29 rfl (lv_at hl 1 rfl) ?_
  refine lv_iconst (v := 2) hx hb dL_does_30 (by decide) ?_
  refine lv_icmp_ne (tgt := 43) hx hb dL_does_31 (by decide) (fun _ => ?_) (fun c_3 => absurd c_3 (by decide))
  refine lv_iload_n hx hb dL_does_43 rfl (lv_at hl 1 rfl) ?_
  refine lv_iconst (v := 3) hx hb dL_does_44 (by decide) ?_
  refine lv_icmp_ne (tgt := 57) hx hb dL_does_45 (by decide) (fun _ => ?_) (fun c_4 => absurd c_4 (by decide))
  refine lv_iload_n hx hb dL_does_57 rfl (lv_at hl 1 rfl) ?_
  refine lv_iconst (v := 4) hx hb dL_does_58 (by decide) ?_
  refine lv_icmp_ne (tgt := 71) hx hb dL_does_59 (by decide) (fun c_5 => absurd c_5 (by decide)) (fun _ => ?_)
  refine lv_aload_n hx hb dL_does_62 rfl (lv_at hl 0 rfl) ?_
  refine lv_iload_n hx hb dL_does_63 rfl (lv_at hl 2 rfl) ?_
  refine lv_iload_n hx hb dL_does_64 rfl (lv_at hl 3 rfl) ?_
  refine z_xcalli (vx_runV (As := [.int a1, .int a2]) (rest := []) ⟨hx, hb, hml, hown, hts⟩ (l_conv (n := n) (r := r) (A := A) (cd := (cd_setTools B a1 a2)) (an := (an_setTools B a1)) (B' := (up_setTools B a1 a2)) (fun w ad hR hJ => c5_setTools l hl9 D cy base w x ad B a1 a2 hR hJ.1 hJ.2.1) (fun h hc => JU_setTools h hc)) (cwV 2 hts gL_does_X5_setTools rfl rfl rfl (by decide +kernel) ⟨Nat.le_of_ble_eq_true rfl, Nat.le_of_ble_eq_true rfl⟩) (z_preV hA hS hH (l_recv hA hH)) rfl rfl hl.1 rfl (lv_room (Nat.le_of_ble_eq_true rfl)) dL_does_65 ⟨(by show _ ≤ (6 : Nat); omega), (by show _ ≤ (70 : Nat); omega)⟩) hS (fun E9 ce9 q9 u9 H locs hw9 hH hz9 hS hce9 hv9 hcl9 => ?_) (fun r9 u9 H locs hw9 hH hz9 hS => ?_)
  · obtain ⟨hthr, hu9⟩ := hw9
    rw [hu9] at hH
    rcases hthr with ⟨hc9, rfl⟩ | ⟨hc9, rfl⟩ | ⟨hc9, rfl⟩
    · refine vx_catch (name := zIob) hown [] ⟨0, 138, 139, 44⟩ [⟨0, 138, 144, 46⟩, ⟨0, 138, 149, 48⟩] htb (fun z9 h9 => nomatch h9) rfl (by decide) (hts (.classLink RL 44 zIob) (by decide +kernel)) (castable_self hcl9) hce9 hv9 hcl9 ?_
      refine W.eq (g2 := F0 m 139 ls [.ref q9]) rfl ?_
      refine lv_astore (lv' := [(6, .ref q9), (0, .ref x), (1, .int 4), (2, .int a1), (3, .int a2), (4, .int a3), (5, .int a4)]) hx hb dL_does_139 hl (by decide) rfl (fun ls hl => ?_)
      refine lv_bipush (v := (-30)) hx hb dL_does_141 (by decide) ?_
      refine vx_ret ?_
      exact z_iret hx hb hr hlocks hH hS (Or.inr (Or.inl (⟨hc9, rfl, rfl⟩))) (by omega) (by omega) dL_does_143
    · refine vx_catch (name := zIae) hown [⟨0, 138, 139, 44⟩] ⟨0, 138, 144, 46⟩ [⟨0, 138, 149, 48⟩] htb (by
        intro z9 h9
        simp only [List.mem_cons, List.not_mem_nil, or_false] at h9
        rcases h9 with rfl
        · exact Or.inr ⟨by decide, zIob, hts (.classLink RL 44 zIob) (by decide +kernel), hA.2.2.2.2.2.2.2.2.1⟩) rfl (by decide) (hts (.classLink RL 46 zIae) (by decide +kernel)) (castable_self hcl9) hce9 hv9 hcl9 ?_
      refine W.eq (g2 := F0 m 144 ls [.ref q9]) rfl ?_
      refine lv_astore (lv' := [(6, .ref q9), (0, .ref x), (1, .int 4), (2, .int a1), (3, .int a2), (4, .int a3), (5, .int a4)]) hx hb dL_does_144 hl (by decide) rfl (fun ls hl => ?_)
      refine lv_bipush (v := (-20)) hx hb dL_does_146 (by decide) ?_
      refine vx_ret ?_
      exact z_iret hx hb hr hlocks hH hS (Or.inr (Or.inr (Or.inl (⟨hc9, rfl, rfl⟩)))) (by omega) (by omega) dL_does_148
    · refine vx_catch (name := zIse) hown [⟨0, 138, 139, 44⟩, ⟨0, 138, 144, 46⟩] ⟨0, 138, 149, 48⟩ [] htb (by
        intro z9 h9
        simp only [List.mem_cons, List.not_mem_nil, or_false] at h9
        rcases h9 with rfl | rfl
        · exact Or.inr ⟨by decide, zIob, hts (.classLink RL 44 zIob) (by decide +kernel), hA.2.2.2.2.2.2.1⟩
        · exact Or.inr ⟨by decide, zIae, hts (.classLink RL 46 zIae) (by decide +kernel), hA.2.2.2.2.2.2.2.1⟩) rfl (by decide) (hts (.classLink RL 48 zIse) (by decide +kernel)) (castable_self hcl9) hce9 hv9 hcl9 ?_
      refine W.eq (g2 := F0 m 149 ls [.ref q9]) rfl ?_
      refine lv_astore (lv' := [(6, .ref q9), (0, .ref x), (1, .int 4), (2, .int a1), (3, .int a2), (4, .int a3), (5, .int a4)]) hx hb dL_does_149 hl (by decide) rfl (fun ls hl => ?_)
      refine lv_bipush (v := (-10)) hx hb dL_does_151 (by decide) ?_
      refine vx_ret ?_
      exact z_iret hx hb hr hlocks hH hS (Or.inr (Or.inr (Or.inr (⟨hc9, rfl, rfl⟩)))) (by omega) (by omega) dL_does_153
  · obtain ⟨hc9, rfl, hu9⟩ := hw9
    rw [hu9] at hH
    refine lv_goto (tgt := 138) hx hb dL_does_68 (by decide) ?_
    refine vx_ret ?_
    exact z_iret hx hb hr hlocks hH hS (Or.inl (⟨hc9, rfl, rfl⟩)) (by omega) (by omega) dL_does_138
set_option maxHeartbeats 8000000 in
set_option maxRecDepth 100000 in
theorem zd_addOrder (l : Launch) (hl9 : l.stackTraces = false) (D : va_G) (cy : Nat → ClassId) (base x : Nat) (r : Nat → Nat) (n : Nat) (B A : mB) (a1 a2 a3 a4 : Int32) : vx_Met l yL_does wsL_does ({ frames := 8, cells := 6, slots := 70, locals := 138 }) (zPc D cy base (lH D cy base x r n) [.ref x, .int 5, .int a1, .int a2, .int a3, .int a4] (B, A)) (zQi base (lH D cy base x r n) (fun (r0 : Int32) (u0 : lU) => ((cd_addOrder B a1 a2 a3 a4) = 0 ∧ r0 = (an_addOrder B) ∧ u0 = ((up_addOrder B a1 a2 a3 a4), A)) ∨ ((cd_addOrder B a1 a2 a3 a4) = 1 ∧ r0 = (-30) ∧ u0 = (B, A)) ∨ ((cd_addOrder B a1 a2 a3 a4) = 2 ∧ r0 = (-20) ∧ u0 = (B, A)) ∨ ((cd_addOrder B a1 a2 a3 a4) = 3 ∧ r0 = (-10) ∧ u0 = (B, A)))) (zXC base (lH D cy base x r n) (fun (_ : String) (_ : lU) => False)) 6 70 (fun q => base ≤ q) := by
  refine vx_ofWH (cc := cL_does) (maxL := 7) (ret := (some .int)) (hh := [(0, 138, 139, 44), (0, 138, 144, 46), (0, 138, 149, 48)]) (by decide) rfl ?_
  intro p e s m args below meth c s₁ B9 hml hv
  obtain ⟨rfl, hA, hH⟩ := hv
  have hx := B9.exec
  have hb := B9.bytes
  have hr := B9.returns
  have hts := atoms_spec (ws := wsL_does) B9.pre
  have hown : s.vm.findClass RL = some m.cls := findClass_of_methodNamed B9.named
  have hlocks := B9.notSynchronized
  have htb : c.exceptionTable.toList = [⟨0, 138, 139, 44⟩, ⟨0, 138, 144, 46⟩, ⟨0, 138, 149, 48⟩] := vx_table (x := yL_does) B9 (hts (.codeWith yL_does cL_does 7 (some .int) [(0, 138, 139, 44), (0, 138, 144, 46), (0, 138, 149, 48)]) (by decide +kernel))
  have hS : va_S (fun q : Nat => base ≤ q) s.heap s.heap [] := va_S.rf
  have hl := lv_entry ([.ref x, .int 5, .int a1, .int a2, .int a3, .int a4]) (n := 7) (Nat.le_of_ble_eq_true rfl)
  rw [lg_entry_eq]
  generalize (lg_sl ([.ref x, .int 5, .int a1, .int a2, .int a3, .int a4]) ++ List.replicate (7 - (lg_sl ([.ref x, .int 5, .int a1, .int a2, .int a3, .int a4])).length) Slot.unset).toArray = ls at hl ⊢
  have hl : lv_has ls 7 [(0, .ref x), (1, .int 5), (2, .int a1), (3, .int a2), (4, .int a3), (5, .int a4)] := hl
  refine lv_iload_n hx hb dL_does_0 rfl (lv_at hl 1 rfl) ?_
  refine lv_if_ne (tgt := 13) hx hb dL_does_1 (by decide) (fun _ => ?_) (fun c_1 => absurd c_1 (by decide))
  refine lv_iload_n hx hb dL_does_13 rfl (lv_at hl 1 rfl) ?_
  refine lv_iconst (v := 1) hx hb dL_does_14 (by decide) ?_
  refine lv_icmp_ne (tgt := 29) hx hb dL_does_15 (by decide) (fun _ => ?_) (fun c_2 => absurd c_2 (by decide))
  refine lv_iload_n hx hb dL_does_29 rfl (lv_at hl 1 rfl) ?_
  refine lv_iconst (v := 2) hx hb dL_does_30 (by decide) ?_
  refine lv_icmp_ne (tgt := 43) hx hb dL_does_31 (by decide) (fun _ => ?_) (fun c_3 => absurd c_3 (by decide))
  refine lv_iload_n hx hb dL_does_43 rfl (lv_at hl 1 rfl) ?_
  refine lv_iconst (v := 3) hx hb dL_does_44 (by decide) ?_
  refine lv_icmp_ne (tgt := 57) hx hb dL_does_45 (by decide) (fun _ => ?_) (fun c_4 => absurd c_4 (by decide))
  refine lv_iload_n hx hb dL_does_57 rfl (lv_at hl 1 rfl) ?_
  refine lv_iconst (v := 4) hx hb dL_does_58 (by decide) ?_
  refine lv_icmp_ne (tgt := 71) hx hb dL_does_59 (by decide) (fun _ => ?_) (fun c_5 => absurd c_5 (by decide))
  refine lv_iload_n hx hb dL_does_71 rfl (lv_at hl 1 rfl) ?_
  refine lv_iconst (v := 5) hx hb dL_does_72 (by decide) ?_
  refine lv_icmp_ne (tgt := 89) hx hb dL_does_73 (by decide) (fun c_6 => absurd c_6 (by decide)) (fun _ => ?_)
  refine lv_aload_n hx hb dL_does_76 rfl (lv_at hl 0 rfl) ?_
  refine lv_iload_n hx hb dL_does_77 rfl (lv_at hl 2 rfl) ?_
  refine lv_iload_n hx hb dL_does_78 rfl (lv_at hl 3 rfl) ?_
  refine lv_iload hx hb dL_does_79 (lv_at hl 4 rfl) ?_
  refine lv_iload hx hb dL_does_81 (lv_at hl 5 rfl) ?_
  refine z_xcalli (vx_runV (As := [.int a1, .int a2, .int a3, .int a4]) (rest := []) ⟨hx, hb, hml, hown, hts⟩ (l_conv (n := n) (r := r) (A := A) (cd := (cd_addOrder B a1 a2 a3 a4)) (an := (an_addOrder B)) (B' := (up_addOrder B a1 a2 a3 a4)) (fun w ad hR hJ => c5_addOrder l hl9 D cy base w x ad B a1 a2 a3 a4 hR hJ.1 hJ.2.1) (fun h hc => JU_addOrder h hc)) (cwV 4 hts gL_does_X5_addOrder rfl rfl rfl (by decide +kernel) ⟨Nat.le_of_ble_eq_true rfl, Nat.le_of_ble_eq_true rfl⟩) (z_preV hA hS hH (l_recv hA hH)) rfl rfl hl.1 rfl (lv_room (Nat.le_of_ble_eq_true rfl)) dL_does_83 ⟨(by show _ ≤ (6 : Nat); omega), (by show _ ≤ (70 : Nat); omega)⟩) hS (fun E9 ce9 q9 u9 H locs hw9 hH hz9 hS hce9 hv9 hcl9 => ?_) (fun r9 u9 H locs hw9 hH hz9 hS => ?_)
  · obtain ⟨hthr, hu9⟩ := hw9
    rw [hu9] at hH
    rcases hthr with ⟨hc9, rfl⟩ | ⟨hc9, rfl⟩ | ⟨hc9, rfl⟩
    · refine vx_catch (name := zIob) hown [] ⟨0, 138, 139, 44⟩ [⟨0, 138, 144, 46⟩, ⟨0, 138, 149, 48⟩] htb (fun z9 h9 => nomatch h9) rfl (by decide) (hts (.classLink RL 44 zIob) (by decide +kernel)) (castable_self hcl9) hce9 hv9 hcl9 ?_
      refine W.eq (g2 := F0 m 139 ls [.ref q9]) rfl ?_
      refine lv_astore (lv' := [(6, .ref q9), (0, .ref x), (1, .int 5), (2, .int a1), (3, .int a2), (4, .int a3), (5, .int a4)]) hx hb dL_does_139 hl (by decide) rfl (fun ls hl => ?_)
      refine lv_bipush (v := (-30)) hx hb dL_does_141 (by decide) ?_
      refine vx_ret ?_
      exact z_iret hx hb hr hlocks hH hS (Or.inr (Or.inl (⟨hc9, rfl, rfl⟩))) (by omega) (by omega) dL_does_143
    · refine vx_catch (name := zIae) hown [⟨0, 138, 139, 44⟩] ⟨0, 138, 144, 46⟩ [⟨0, 138, 149, 48⟩] htb (by
        intro z9 h9
        simp only [List.mem_cons, List.not_mem_nil, or_false] at h9
        rcases h9 with rfl
        · exact Or.inr ⟨by decide, zIob, hts (.classLink RL 44 zIob) (by decide +kernel), hA.2.2.2.2.2.2.2.2.1⟩) rfl (by decide) (hts (.classLink RL 46 zIae) (by decide +kernel)) (castable_self hcl9) hce9 hv9 hcl9 ?_
      refine W.eq (g2 := F0 m 144 ls [.ref q9]) rfl ?_
      refine lv_astore (lv' := [(6, .ref q9), (0, .ref x), (1, .int 5), (2, .int a1), (3, .int a2), (4, .int a3), (5, .int a4)]) hx hb dL_does_144 hl (by decide) rfl (fun ls hl => ?_)
      refine lv_bipush (v := (-20)) hx hb dL_does_146 (by decide) ?_
      refine vx_ret ?_
      exact z_iret hx hb hr hlocks hH hS (Or.inr (Or.inr (Or.inl (⟨hc9, rfl, rfl⟩)))) (by omega) (by omega) dL_does_148
    · refine vx_catch (name := zIse) hown [⟨0, 138, 139, 44⟩, ⟨0, 138, 144, 46⟩] ⟨0, 138, 149, 48⟩ [] htb (by
        intro z9 h9
        simp only [List.mem_cons, List.not_mem_nil, or_false] at h9
        rcases h9 with rfl | rfl
        · exact Or.inr ⟨by decide, zIob, hts (.classLink RL 44 zIob) (by decide +kernel), hA.2.2.2.2.2.2.1⟩
        · exact Or.inr ⟨by decide, zIae, hts (.classLink RL 46 zIae) (by decide +kernel), hA.2.2.2.2.2.2.2.1⟩) rfl (by decide) (hts (.classLink RL 48 zIse) (by decide +kernel)) (castable_self hcl9) hce9 hv9 hcl9 ?_
      refine W.eq (g2 := F0 m 149 ls [.ref q9]) rfl ?_
      refine lv_astore (lv' := [(6, .ref q9), (0, .ref x), (1, .int 5), (2, .int a1), (3, .int a2), (4, .int a3), (5, .int a4)]) hx hb dL_does_149 hl (by decide) rfl (fun ls hl => ?_)
      refine lv_bipush (v := (-10)) hx hb dL_does_151 (by decide) ?_
      refine vx_ret ?_
      exact z_iret hx hb hr hlocks hH hS (Or.inr (Or.inr (Or.inr (⟨hc9, rfl, rfl⟩)))) (by omega) (by omega) dL_does_153
  · obtain ⟨hc9, rfl, hu9⟩ := hw9
    rw [hu9] at hH
    refine lv_goto (tgt := 138) hx hb dL_does_86 (by decide) ?_
    refine vx_ret ?_
    exact z_iret hx hb hr hlocks hH hS (Or.inl (⟨hc9, rfl, rfl⟩)) (by omega) (by omega) dL_does_138
set_option maxHeartbeats 8000000 in
set_option maxRecDepth 100000 in
theorem zd_assign (l : Launch) (hl9 : l.stackTraces = false) (D : va_G) (cy : Nat → ClassId) (base x : Nat) (r : Nat → Nat) (n : Nat) (B A : mB) (a1 a2 a3 a4 : Int32) : vx_Met l yL_does wsL_does ({ frames := 8, cells := 6, slots := 70, locals := 136 }) (zPc D cy base (lH D cy base x r n) [.ref x, .int 6, .int a1, .int a2, .int a3, .int a4] (B, A)) (zQi base (lH D cy base x r n) (fun (r0 : Int32) (u0 : lU) => ((cd_assign B a1 a2) = 0 ∧ r0 = (an_assign B a1 a2) ∧ u0 = ((up_assign B a1 a2), A)) ∨ ((cd_assign B a1 a2) = 1 ∧ r0 = (-30) ∧ u0 = (B, A)) ∨ ((cd_assign B a1 a2) = 2 ∧ r0 = (-10) ∧ u0 = (B, A)))) (zXC base (lH D cy base x r n) (fun (_ : String) (_ : lU) => False)) 6 70 (fun q => base ≤ q) := by
  refine vx_ofWH (cc := cL_does) (maxL := 7) (ret := (some .int)) (hh := [(0, 138, 139, 44), (0, 138, 144, 46), (0, 138, 149, 48)]) (by decide) rfl ?_
  intro p e s m args below meth c s₁ B9 hml hv
  obtain ⟨rfl, hA, hH⟩ := hv
  have hx := B9.exec
  have hb := B9.bytes
  have hr := B9.returns
  have hts := atoms_spec (ws := wsL_does) B9.pre
  have hown : s.vm.findClass RL = some m.cls := findClass_of_methodNamed B9.named
  have hlocks := B9.notSynchronized
  have htb : c.exceptionTable.toList = [⟨0, 138, 139, 44⟩, ⟨0, 138, 144, 46⟩, ⟨0, 138, 149, 48⟩] := vx_table (x := yL_does) B9 (hts (.codeWith yL_does cL_does 7 (some .int) [(0, 138, 139, 44), (0, 138, 144, 46), (0, 138, 149, 48)]) (by decide +kernel))
  have hS : va_S (fun q : Nat => base ≤ q) s.heap s.heap [] := va_S.rf
  have hl := lv_entry ([.ref x, .int 6, .int a1, .int a2, .int a3, .int a4]) (n := 7) (Nat.le_of_ble_eq_true rfl)
  rw [lg_entry_eq]
  generalize (lg_sl ([.ref x, .int 6, .int a1, .int a2, .int a3, .int a4]) ++ List.replicate (7 - (lg_sl ([.ref x, .int 6, .int a1, .int a2, .int a3, .int a4])).length) Slot.unset).toArray = ls at hl ⊢
  have hl : lv_has ls 7 [(0, .ref x), (1, .int 6), (2, .int a1), (3, .int a2), (4, .int a3), (5, .int a4)] := hl
  refine lv_iload_n hx hb dL_does_0 rfl (lv_at hl 1 rfl) ?_
  refine lv_if_ne (tgt := 13) hx hb dL_does_1 (by decide) (fun _ => ?_) (fun c_1 => absurd c_1 (by decide))
  refine lv_iload_n hx hb dL_does_13 rfl (lv_at hl 1 rfl) ?_
  refine lv_iconst (v := 1) hx hb dL_does_14 (by decide) ?_
  refine lv_icmp_ne (tgt := 29) hx hb dL_does_15 (by decide) (fun _ => ?_) (fun c_2 => absurd c_2 (by decide))
  refine lv_iload_n hx hb dL_does_29 rfl (lv_at hl 1 rfl) ?_
  refine lv_iconst (v := 2) hx hb dL_does_30 (by decide) ?_
  refine lv_icmp_ne (tgt := 43) hx hb dL_does_31 (by decide) (fun _ => ?_) (fun c_3 => absurd c_3 (by decide))
  refine lv_iload_n hx hb dL_does_43 rfl (lv_at hl 1 rfl) ?_
  refine lv_iconst (v := 3) hx hb dL_does_44 (by decide) ?_
  refine lv_icmp_ne (tgt := 57) hx hb dL_does_45 (by decide) (fun _ => ?_) (fun c_4 => absurd c_4 (by decide))
  refine lv_iload_n hx hb dL_does_57 rfl (lv_at hl 1 rfl) ?_
  refine lv_iconst (v := 4) hx hb dL_does_58 (by decide) ?_
  refine lv_icmp_ne (tgt := 71) hx hb dL_does_59 (by decide) (fun _ => ?_) (fun c_5 => absurd c_5 (by decide))
  refine lv_iload_n hx hb dL_does_71 rfl (lv_at hl 1 rfl) ?_
  refine lv_iconst (v := 5) hx hb dL_does_72 (by decide) ?_
  refine lv_icmp_ne (tgt := 89) hx hb dL_does_73 (by decide) (fun _ => ?_) (fun c_6 => absurd c_6 (by decide))
  refine lv_iload_n hx hb dL_does_89 rfl (lv_at hl 1 rfl) ?_
  refine lv_bipush (v := 6) hx hb dL_does_90 (by decide) ?_
  refine lv_icmp_ne (tgt := 104) hx hb dL_does_92 (by decide) (fun c_7 => absurd c_7 (by decide)) (fun _ => ?_)
  refine lv_aload_n hx hb dL_does_95 rfl (lv_at hl 0 rfl) ?_
  refine lv_iload_n hx hb dL_does_96 rfl (lv_at hl 2 rfl) ?_
  refine lv_iload_n hx hb dL_does_97 rfl (lv_at hl 3 rfl) ?_
  refine z_xcalli (vx_runV (As := [.int a1, .int a2]) (rest := []) ⟨hx, hb, hml, hown, hts⟩ (l_conv (n := n) (r := r) (A := A) (cd := (cd_assign B a1 a2)) (an := (an_assign B a1 a2)) (B' := (up_assign B a1 a2)) (fun w ad hR hJ => c5_assign l hl9 D cy base w x ad B a1 a2 hR hJ.1 hJ.2.1) (fun h hc => JU_assign h hc)) (cwV 2 hts gL_does_X5_assign rfl rfl rfl (by decide +kernel) ⟨Nat.le_of_ble_eq_true rfl, Nat.le_of_ble_eq_true rfl⟩) (z_preV hA hS hH (l_recv hA hH)) rfl rfl hl.1 rfl (lv_room (Nat.le_of_ble_eq_true rfl)) dL_does_98 ⟨(by show _ ≤ (6 : Nat); omega), (by show _ ≤ (70 : Nat); omega)⟩) hS (fun E9 ce9 q9 u9 H locs hw9 hH hz9 hS hce9 hv9 hcl9 => ?_) (fun r9 u9 H locs hw9 hH hz9 hS => ?_)
  · obtain ⟨hthr, hu9⟩ := hw9
    rw [hu9] at hH
    rcases hthr with ⟨hc9, rfl⟩ | ⟨hc9, rfl⟩
    · refine vx_catch (name := zIob) hown [] ⟨0, 138, 139, 44⟩ [⟨0, 138, 144, 46⟩, ⟨0, 138, 149, 48⟩] htb (fun z9 h9 => nomatch h9) rfl (by decide) (hts (.classLink RL 44 zIob) (by decide +kernel)) (castable_self hcl9) hce9 hv9 hcl9 ?_
      refine W.eq (g2 := F0 m 139 ls [.ref q9]) rfl ?_
      refine lv_astore (lv' := [(6, .ref q9), (0, .ref x), (1, .int 6), (2, .int a1), (3, .int a2), (4, .int a3), (5, .int a4)]) hx hb dL_does_139 hl (by decide) rfl (fun ls hl => ?_)
      refine lv_bipush (v := (-30)) hx hb dL_does_141 (by decide) ?_
      refine vx_ret ?_
      exact z_iret hx hb hr hlocks hH hS (Or.inr (Or.inl (⟨hc9, rfl, rfl⟩))) (by omega) (by omega) dL_does_143
    · refine vx_catch (name := zIse) hown [⟨0, 138, 139, 44⟩, ⟨0, 138, 144, 46⟩] ⟨0, 138, 149, 48⟩ [] htb (by
        intro z9 h9
        simp only [List.mem_cons, List.not_mem_nil, or_false] at h9
        rcases h9 with rfl | rfl
        · exact Or.inr ⟨by decide, zIob, hts (.classLink RL 44 zIob) (by decide +kernel), hA.2.2.2.2.2.2.1⟩
        · exact Or.inr ⟨by decide, zIae, hts (.classLink RL 46 zIae) (by decide +kernel), hA.2.2.2.2.2.2.2.1⟩) rfl (by decide) (hts (.classLink RL 48 zIse) (by decide +kernel)) (castable_self hcl9) hce9 hv9 hcl9 ?_
      refine W.eq (g2 := F0 m 149 ls [.ref q9]) rfl ?_
      refine lv_astore (lv' := [(6, .ref q9), (0, .ref x), (1, .int 6), (2, .int a1), (3, .int a2), (4, .int a3), (5, .int a4)]) hx hb dL_does_149 hl (by decide) rfl (fun ls hl => ?_)
      refine lv_bipush (v := (-10)) hx hb dL_does_151 (by decide) ?_
      refine vx_ret ?_
      exact z_iret hx hb hr hlocks hH hS (Or.inr (Or.inr (⟨hc9, rfl, rfl⟩))) (by omega) (by omega) dL_does_153
  · obtain ⟨hc9, rfl, hu9⟩ := hw9
    rw [hu9] at hH
    refine lv_goto (tgt := 138) hx hb dL_does_101 (by decide) ?_
    refine vx_ret ?_
    exact z_iret hx hb hr hlocks hH hS (Or.inl (⟨hc9, rfl, rfl⟩)) (by omega) (by omega) dL_does_138
set_option maxHeartbeats 8000000 in
set_option maxRecDepth 100000 in
theorem zd_takeOff (l : Launch) (hl9 : l.stackTraces = false) (D : va_G) (cy : Nat → ClassId) (base x : Nat) (r : Nat → Nat) (n : Nat) (B A : mB) (a1 a2 a3 a4 : Int32) : vx_Met l yL_does wsL_does ({ frames := 8, cells := 6, slots := 70, locals := 135 }) (zPc D cy base (lH D cy base x r n) [.ref x, .int 7, .int a1, .int a2, .int a3, .int a4] (B, A)) (zQi base (lH D cy base x r n) (fun (r0 : Int32) (u0 : lU) => ((cd_takeOff B a1) = 0 ∧ r0 = (an_of B 11 a1) ∧ u0 = ((up_takeOff B a1), A)) ∨ ((cd_takeOff B a1) = 1 ∧ r0 = (-30) ∧ u0 = (B, A)) ∨ ((cd_takeOff B a1) = 2 ∧ r0 = (-10) ∧ u0 = (B, A)))) (zXC base (lH D cy base x r n) (fun (_ : String) (_ : lU) => False)) 6 70 (fun q => base ≤ q) := by
  refine vx_ofWH (cc := cL_does) (maxL := 7) (ret := (some .int)) (hh := [(0, 138, 139, 44), (0, 138, 144, 46), (0, 138, 149, 48)]) (by decide) rfl ?_
  intro p e s m args below meth c s₁ B9 hml hv
  obtain ⟨rfl, hA, hH⟩ := hv
  have hx := B9.exec
  have hb := B9.bytes
  have hr := B9.returns
  have hts := atoms_spec (ws := wsL_does) B9.pre
  have hown : s.vm.findClass RL = some m.cls := findClass_of_methodNamed B9.named
  have hlocks := B9.notSynchronized
  have htb : c.exceptionTable.toList = [⟨0, 138, 139, 44⟩, ⟨0, 138, 144, 46⟩, ⟨0, 138, 149, 48⟩] := vx_table (x := yL_does) B9 (hts (.codeWith yL_does cL_does 7 (some .int) [(0, 138, 139, 44), (0, 138, 144, 46), (0, 138, 149, 48)]) (by decide +kernel))
  have hS : va_S (fun q : Nat => base ≤ q) s.heap s.heap [] := va_S.rf
  have hl := lv_entry ([.ref x, .int 7, .int a1, .int a2, .int a3, .int a4]) (n := 7) (Nat.le_of_ble_eq_true rfl)
  rw [lg_entry_eq]
  generalize (lg_sl ([.ref x, .int 7, .int a1, .int a2, .int a3, .int a4]) ++ List.replicate (7 - (lg_sl ([.ref x, .int 7, .int a1, .int a2, .int a3, .int a4])).length) Slot.unset).toArray = ls at hl ⊢
  have hl : lv_has ls 7 [(0, .ref x), (1, .int 7), (2, .int a1), (3, .int a2), (4, .int a3), (5, .int a4)] := hl
  refine lv_iload_n hx hb dL_does_0 rfl (lv_at hl 1 rfl) ?_
  refine lv_if_ne (tgt := 13) hx hb dL_does_1 (by decide) (fun _ => ?_) (fun c_1 => absurd c_1 (by decide))
  refine lv_iload_n hx hb dL_does_13 rfl (lv_at hl 1 rfl) ?_
  refine lv_iconst (v := 1) hx hb dL_does_14 (by decide) ?_
  refine lv_icmp_ne (tgt := 29) hx hb dL_does_15 (by decide) (fun _ => ?_) (fun c_2 => absurd c_2 (by decide))
  refine lv_iload_n hx hb dL_does_29 rfl (lv_at hl 1 rfl) ?_
  refine lv_iconst (v := 2) hx hb dL_does_30 (by decide) ?_
  refine lv_icmp_ne (tgt := 43) hx hb dL_does_31 (by decide) (fun _ => ?_) (fun c_3 => absurd c_3 (by decide))
  refine lv_iload_n hx hb dL_does_43 rfl (lv_at hl 1 rfl) ?_
  refine lv_iconst (v := 3) hx hb dL_does_44 (by decide) ?_
  refine lv_icmp_ne (tgt := 57) hx hb dL_does_45 (by decide) (fun _ => ?_) (fun c_4 => absurd c_4 (by decide))
  refine lv_iload_n hx hb dL_does_57 rfl (lv_at hl 1 rfl) ?_
  refine lv_iconst (v := 4) hx hb dL_does_58 (by decide) ?_
  refine lv_icmp_ne (tgt := 71) hx hb dL_does_59 (by decide) (fun _ => ?_) (fun c_5 => absurd c_5 (by decide))
  refine lv_iload_n hx hb dL_does_71 rfl (lv_at hl 1 rfl) ?_
  refine lv_iconst (v := 5) hx hb dL_does_72 (by decide) ?_
  refine lv_icmp_ne (tgt := 89) hx hb dL_does_73 (by decide) (fun _ => ?_) (fun c_6 => absurd c_6 (by decide))
  refine lv_iload_n hx hb dL_does_89 rfl (lv_at hl 1 rfl) ?_
  refine lv_bipush (v := 6) hx hb dL_does_90 (by decide) ?_
  refine lv_icmp_ne (tgt := 104) hx hb dL_does_92 (by decide) (fun _ => ?_) (fun c_7 => absurd c_7 (by decide))
  refine lv_iload_n hx hb dL_does_104 rfl (lv_at hl 1 rfl) ?_
  refine lv_bipush (v := 7) hx hb dL_does_105 (by decide) ?_
  refine lv_icmp_ne (tgt := 118) hx hb dL_does_107 (by decide) (fun c_8 => absurd c_8 (by decide)) (fun _ => ?_)
  refine lv_aload_n hx hb dL_does_110 rfl (lv_at hl 0 rfl) ?_
  refine lv_iload_n hx hb dL_does_111 rfl (lv_at hl 2 rfl) ?_
  refine z_xcalli (vx_runV (As := [.int a1]) (rest := []) ⟨hx, hb, hml, hown, hts⟩ (l_conv (n := n) (r := r) (A := A) (cd := (cd_takeOff B a1)) (an := (an_of B 11 a1)) (B' := (up_takeOff B a1)) (fun w ad hR hJ => c5_takeOff l hl9 D cy base w x ad B a1 hR hJ.1 hJ.2.1) (fun h hc => JU_takeOff h hc)) (cwV 1 hts gL_does_X5_takeOff rfl rfl rfl (by decide +kernel) ⟨Nat.le_of_ble_eq_true rfl, Nat.le_of_ble_eq_true rfl⟩) (z_preV hA hS hH (l_recv hA hH)) rfl rfl hl.1 rfl (lv_room (Nat.le_of_ble_eq_true rfl)) dL_does_112 ⟨(by show _ ≤ (6 : Nat); omega), (by show _ ≤ (70 : Nat); omega)⟩) hS (fun E9 ce9 q9 u9 H locs hw9 hH hz9 hS hce9 hv9 hcl9 => ?_) (fun r9 u9 H locs hw9 hH hz9 hS => ?_)
  · obtain ⟨hthr, hu9⟩ := hw9
    rw [hu9] at hH
    rcases hthr with ⟨hc9, rfl⟩ | ⟨hc9, rfl⟩
    · refine vx_catch (name := zIob) hown [] ⟨0, 138, 139, 44⟩ [⟨0, 138, 144, 46⟩, ⟨0, 138, 149, 48⟩] htb (fun z9 h9 => nomatch h9) rfl (by decide) (hts (.classLink RL 44 zIob) (by decide +kernel)) (castable_self hcl9) hce9 hv9 hcl9 ?_
      refine W.eq (g2 := F0 m 139 ls [.ref q9]) rfl ?_
      refine lv_astore (lv' := [(6, .ref q9), (0, .ref x), (1, .int 7), (2, .int a1), (3, .int a2), (4, .int a3), (5, .int a4)]) hx hb dL_does_139 hl (by decide) rfl (fun ls hl => ?_)
      refine lv_bipush (v := (-30)) hx hb dL_does_141 (by decide) ?_
      refine vx_ret ?_
      exact z_iret hx hb hr hlocks hH hS (Or.inr (Or.inl (⟨hc9, rfl, rfl⟩))) (by omega) (by omega) dL_does_143
    · refine vx_catch (name := zIse) hown [⟨0, 138, 139, 44⟩, ⟨0, 138, 144, 46⟩] ⟨0, 138, 149, 48⟩ [] htb (by
        intro z9 h9
        simp only [List.mem_cons, List.not_mem_nil, or_false] at h9
        rcases h9 with rfl | rfl
        · exact Or.inr ⟨by decide, zIob, hts (.classLink RL 44 zIob) (by decide +kernel), hA.2.2.2.2.2.2.1⟩
        · exact Or.inr ⟨by decide, zIae, hts (.classLink RL 46 zIae) (by decide +kernel), hA.2.2.2.2.2.2.2.1⟩) rfl (by decide) (hts (.classLink RL 48 zIse) (by decide +kernel)) (castable_self hcl9) hce9 hv9 hcl9 ?_
      refine W.eq (g2 := F0 m 149 ls [.ref q9]) rfl ?_
      refine lv_astore (lv' := [(6, .ref q9), (0, .ref x), (1, .int 7), (2, .int a1), (3, .int a2), (4, .int a3), (5, .int a4)]) hx hb dL_does_149 hl (by decide) rfl (fun ls hl => ?_)
      refine lv_bipush (v := (-10)) hx hb dL_does_151 (by decide) ?_
      refine vx_ret ?_
      exact z_iret hx hb hr hlocks hH hS (Or.inr (Or.inr (⟨hc9, rfl, rfl⟩))) (by omega) (by omega) dL_does_153
  · obtain ⟨hc9, rfl, hu9⟩ := hw9
    rw [hu9] at hH
    refine lv_goto (tgt := 138) hx hb dL_does_115 (by decide) ?_
    refine vx_ret ?_
    exact z_iret hx hb hr hlocks hH hS (Or.inl (⟨hc9, rfl, rfl⟩)) (by omega) (by omega) dL_does_138
set_option maxHeartbeats 8000000 in
set_option maxRecDepth 100000 in
theorem zd_buy (l : Launch) (hl9 : l.stackTraces = false) (D : va_G) (cy : Nat → ClassId) (base x : Nat) (r : Nat → Nat) (n : Nat) (B A : mB) (a1 a2 a3 a4 : Int32) : vx_Met l yL_does wsL_does ({ frames := 8, cells := 6, slots := 70, locals := 136 }) (zPc D cy base (lH D cy base x r n) [.ref x, .int 8, .int a1, .int a2, .int a3, .int a4] (B, A)) (zQi base (lH D cy base x r n) (fun (r0 : Int32) (u0 : lU) => ((cd_buy B a1 a2) = 0 ∧ r0 = (an_buy B a1 a2) ∧ u0 = ((up_buy B a1 a2), A)) ∨ ((cd_buy B a1 a2) = 1 ∧ r0 = (-30) ∧ u0 = (B, A)) ∨ ((cd_buy B a1 a2) = 2 ∧ r0 = (-20) ∧ u0 = (B, A)) ∨ ((cd_buy B a1 a2) = 3 ∧ r0 = (-10) ∧ u0 = (B, A)))) (zXC base (lH D cy base x r n) (fun (_ : String) (_ : lU) => False)) 6 70 (fun q => base ≤ q) := by
  refine vx_ofWH (cc := cL_does) (maxL := 7) (ret := (some .int)) (hh := [(0, 138, 139, 44), (0, 138, 144, 46), (0, 138, 149, 48)]) (by decide) rfl ?_
  intro p e s m args below meth c s₁ B9 hml hv
  obtain ⟨rfl, hA, hH⟩ := hv
  have hx := B9.exec
  have hb := B9.bytes
  have hr := B9.returns
  have hts := atoms_spec (ws := wsL_does) B9.pre
  have hown : s.vm.findClass RL = some m.cls := findClass_of_methodNamed B9.named
  have hlocks := B9.notSynchronized
  have htb : c.exceptionTable.toList = [⟨0, 138, 139, 44⟩, ⟨0, 138, 144, 46⟩, ⟨0, 138, 149, 48⟩] := vx_table (x := yL_does) B9 (hts (.codeWith yL_does cL_does 7 (some .int) [(0, 138, 139, 44), (0, 138, 144, 46), (0, 138, 149, 48)]) (by decide +kernel))
  have hS : va_S (fun q : Nat => base ≤ q) s.heap s.heap [] := va_S.rf
  have hl := lv_entry ([.ref x, .int 8, .int a1, .int a2, .int a3, .int a4]) (n := 7) (Nat.le_of_ble_eq_true rfl)
  rw [lg_entry_eq]
  generalize (lg_sl ([.ref x, .int 8, .int a1, .int a2, .int a3, .int a4]) ++ List.replicate (7 - (lg_sl ([.ref x, .int 8, .int a1, .int a2, .int a3, .int a4])).length) Slot.unset).toArray = ls at hl ⊢
  have hl : lv_has ls 7 [(0, .ref x), (1, .int 8), (2, .int a1), (3, .int a2), (4, .int a3), (5, .int a4)] := hl
  refine lv_iload_n hx hb dL_does_0 rfl (lv_at hl 1 rfl) ?_
  refine lv_if_ne (tgt := 13) hx hb dL_does_1 (by decide) (fun _ => ?_) (fun c_1 => absurd c_1 (by decide))
  refine lv_iload_n hx hb dL_does_13 rfl (lv_at hl 1 rfl) ?_
  refine lv_iconst (v := 1) hx hb dL_does_14 (by decide) ?_
  refine lv_icmp_ne (tgt := 29) hx hb dL_does_15 (by decide) (fun _ => ?_) (fun c_2 => absurd c_2 (by decide))
  refine lv_iload_n hx hb dL_does_29 rfl (lv_at hl 1 rfl) ?_
  refine lv_iconst (v := 2) hx hb dL_does_30 (by decide) ?_
  refine lv_icmp_ne (tgt := 43) hx hb dL_does_31 (by decide) (fun _ => ?_) (fun c_3 => absurd c_3 (by decide))
  refine lv_iload_n hx hb dL_does_43 rfl (lv_at hl 1 rfl) ?_
  refine lv_iconst (v := 3) hx hb dL_does_44 (by decide) ?_
  refine lv_icmp_ne (tgt := 57) hx hb dL_does_45 (by decide) (fun _ => ?_) (fun c_4 => absurd c_4 (by decide))
  refine lv_iload_n hx hb dL_does_57 rfl (lv_at hl 1 rfl) ?_
  refine lv_iconst (v := 4) hx hb dL_does_58 (by decide) ?_
  refine lv_icmp_ne (tgt := 71) hx hb dL_does_59 (by decide) (fun _ => ?_) (fun c_5 => absurd c_5 (by decide))
  refine lv_iload_n hx hb dL_does_71 rfl (lv_at hl 1 rfl) ?_
  refine lv_iconst (v := 5) hx hb dL_does_72 (by decide) ?_
  refine lv_icmp_ne (tgt := 89) hx hb dL_does_73 (by decide) (fun _ => ?_) (fun c_6 => absurd c_6 (by decide))
  refine lv_iload_n hx hb dL_does_89 rfl (lv_at hl 1 rfl) ?_
  refine lv_bipush (v := 6) hx hb dL_does_90 (by decide) ?_
  refine lv_icmp_ne (tgt := 104) hx hb dL_does_92 (by decide) (fun _ => ?_) (fun c_7 => absurd c_7 (by decide))
  refine lv_iload_n hx hb dL_does_104 rfl (lv_at hl 1 rfl) ?_
  refine lv_bipush (v := 7) hx hb dL_does_105 (by decide) ?_
  refine lv_icmp_ne (tgt := 118) hx hb dL_does_107 (by decide) (fun _ => ?_) (fun c_8 => absurd c_8 (by decide))
  refine lv_iload_n hx hb dL_does_118 rfl (lv_at hl 1 rfl) ?_
  refine lv_bipush (v := 8) hx hb dL_does_119 (by decide) ?_
  refine lv_icmp_ne (tgt := 133) hx hb dL_does_121 (by decide) (fun c_9 => absurd c_9 (by decide)) (fun _ => ?_)
  refine lv_aload_n hx hb dL_does_124 rfl (lv_at hl 0 rfl) ?_
  refine lv_iload_n hx hb dL_does_125 rfl (lv_at hl 2 rfl) ?_
  refine lv_iload_n hx hb dL_does_126 rfl (lv_at hl 3 rfl) ?_
  refine z_xcalli (vx_runV (As := [.int a1, .int a2]) (rest := []) ⟨hx, hb, hml, hown, hts⟩ (l_conv (n := n) (r := r) (A := A) (cd := (cd_buy B a1 a2)) (an := (an_buy B a1 a2)) (B' := (up_buy B a1 a2)) (fun w ad hR hJ => c5_buy l hl9 D cy base w x ad B a1 a2 hR hJ.1 hJ.2.1) (fun h hc => JU_buy h hc)) (cwV 2 hts gL_does_X5_buy rfl rfl rfl (by decide +kernel) ⟨Nat.le_of_ble_eq_true rfl, Nat.le_of_ble_eq_true rfl⟩) (z_preV hA hS hH (l_recv hA hH)) rfl rfl hl.1 rfl (lv_room (Nat.le_of_ble_eq_true rfl)) dL_does_127 ⟨(by show _ ≤ (6 : Nat); omega), (by show _ ≤ (70 : Nat); omega)⟩) hS (fun E9 ce9 q9 u9 H locs hw9 hH hz9 hS hce9 hv9 hcl9 => ?_) (fun r9 u9 H locs hw9 hH hz9 hS => ?_)
  · obtain ⟨hthr, hu9⟩ := hw9
    rw [hu9] at hH
    rcases hthr with ⟨hc9, rfl⟩ | ⟨hc9, rfl⟩ | ⟨hc9, rfl⟩
    · refine vx_catch (name := zIob) hown [] ⟨0, 138, 139, 44⟩ [⟨0, 138, 144, 46⟩, ⟨0, 138, 149, 48⟩] htb (fun z9 h9 => nomatch h9) rfl (by decide) (hts (.classLink RL 44 zIob) (by decide +kernel)) (castable_self hcl9) hce9 hv9 hcl9 ?_
      refine W.eq (g2 := F0 m 139 ls [.ref q9]) rfl ?_
      refine lv_astore (lv' := [(6, .ref q9), (0, .ref x), (1, .int 8), (2, .int a1), (3, .int a2), (4, .int a3), (5, .int a4)]) hx hb dL_does_139 hl (by decide) rfl (fun ls hl => ?_)
      refine lv_bipush (v := (-30)) hx hb dL_does_141 (by decide) ?_
      refine vx_ret ?_
      exact z_iret hx hb hr hlocks hH hS (Or.inr (Or.inl (⟨hc9, rfl, rfl⟩))) (by omega) (by omega) dL_does_143
    · refine vx_catch (name := zIae) hown [⟨0, 138, 139, 44⟩] ⟨0, 138, 144, 46⟩ [⟨0, 138, 149, 48⟩] htb (by
        intro z9 h9
        simp only [List.mem_cons, List.not_mem_nil, or_false] at h9
        rcases h9 with rfl
        · exact Or.inr ⟨by decide, zIob, hts (.classLink RL 44 zIob) (by decide +kernel), hA.2.2.2.2.2.2.2.2.1⟩) rfl (by decide) (hts (.classLink RL 46 zIae) (by decide +kernel)) (castable_self hcl9) hce9 hv9 hcl9 ?_
      refine W.eq (g2 := F0 m 144 ls [.ref q9]) rfl ?_
      refine lv_astore (lv' := [(6, .ref q9), (0, .ref x), (1, .int 8), (2, .int a1), (3, .int a2), (4, .int a3), (5, .int a4)]) hx hb dL_does_144 hl (by decide) rfl (fun ls hl => ?_)
      refine lv_bipush (v := (-20)) hx hb dL_does_146 (by decide) ?_
      refine vx_ret ?_
      exact z_iret hx hb hr hlocks hH hS (Or.inr (Or.inr (Or.inl (⟨hc9, rfl, rfl⟩)))) (by omega) (by omega) dL_does_148
    · refine vx_catch (name := zIse) hown [⟨0, 138, 139, 44⟩, ⟨0, 138, 144, 46⟩] ⟨0, 138, 149, 48⟩ [] htb (by
        intro z9 h9
        simp only [List.mem_cons, List.not_mem_nil, or_false] at h9
        rcases h9 with rfl | rfl
        · exact Or.inr ⟨by decide, zIob, hts (.classLink RL 44 zIob) (by decide +kernel), hA.2.2.2.2.2.2.1⟩
        · exact Or.inr ⟨by decide, zIae, hts (.classLink RL 46 zIae) (by decide +kernel), hA.2.2.2.2.2.2.2.1⟩) rfl (by decide) (hts (.classLink RL 48 zIse) (by decide +kernel)) (castable_self hcl9) hce9 hv9 hcl9 ?_
      refine W.eq (g2 := F0 m 149 ls [.ref q9]) rfl ?_
      refine lv_astore (lv' := [(6, .ref q9), (0, .ref x), (1, .int 8), (2, .int a1), (3, .int a2), (4, .int a3), (5, .int a4)]) hx hb dL_does_149 hl (by decide) rfl (fun ls hl => ?_)
      refine lv_bipush (v := (-10)) hx hb dL_does_151 (by decide) ?_
      refine vx_ret ?_
      exact z_iret hx hb hr hlocks hH hS (Or.inr (Or.inr (Or.inr (⟨hc9, rfl, rfl⟩)))) (by omega) (by omega) dL_does_153
  · obtain ⟨hc9, rfl, hu9⟩ := hw9
    rw [hu9] at hH
    refine lv_goto (tgt := 138) hx hb dL_does_130 (by decide) ?_
    refine vx_ret ?_
    exact z_iret hx hb hr hlocks hH hS (Or.inl (⟨hc9, rfl, rfl⟩)) (by omega) (by omega) dL_does_138
set_option maxHeartbeats 8000000 in
set_option maxRecDepth 100000 in
theorem zd_pass (l : Launch) (hl9 : l.stackTraces = false) (D : va_G) (cy : Nat → ClassId) (base x : Nat) (r : Nat → Nat) (n : Nat) (B A : mB) (a1 a2 a3 a4 : Int32) : vx_Met l yL_does wsL_does ({ frames := 8, cells := 1, slots := 6, locals := 135 }) (zPc D cy base (lH D cy base x r n) [.ref x, .int 9, .int a1, .int a2, .int a3, .int a4] (B, A)) (zQi base (lH D cy base x r n) (fun (r0 : Int32) (u0 : lU) => ((cd_pass B a1) = 0 ∧ r0 = (an_pass B a1) ∧ u0 = ((up_pass B a1), A)) ∨ ((cd_pass B a1) = 1 ∧ r0 = (-20) ∧ u0 = (B, A)))) (zXC base (lH D cy base x r n) (fun (_ : String) (_ : lU) => False)) 1 6 (fun q => base ≤ q) := by
  refine vx_ofWH (cc := cL_does) (maxL := 7) (ret := (some .int)) (hh := [(0, 138, 139, 44), (0, 138, 144, 46), (0, 138, 149, 48)]) (by decide) rfl ?_
  intro p e s m args below meth c s₁ B9 hml hv
  obtain ⟨rfl, hA, hH⟩ := hv
  have hx := B9.exec
  have hb := B9.bytes
  have hr := B9.returns
  have hts := atoms_spec (ws := wsL_does) B9.pre
  have hown : s.vm.findClass RL = some m.cls := findClass_of_methodNamed B9.named
  have hlocks := B9.notSynchronized
  have htb : c.exceptionTable.toList = [⟨0, 138, 139, 44⟩, ⟨0, 138, 144, 46⟩, ⟨0, 138, 149, 48⟩] := vx_table (x := yL_does) B9 (hts (.codeWith yL_does cL_does 7 (some .int) [(0, 138, 139, 44), (0, 138, 144, 46), (0, 138, 149, 48)]) (by decide +kernel))
  have hS : va_S (fun q : Nat => base ≤ q) s.heap s.heap [] := va_S.rf
  have hl := lv_entry ([.ref x, .int 9, .int a1, .int a2, .int a3, .int a4]) (n := 7) (Nat.le_of_ble_eq_true rfl)
  rw [lg_entry_eq]
  generalize (lg_sl ([.ref x, .int 9, .int a1, .int a2, .int a3, .int a4]) ++ List.replicate (7 - (lg_sl ([.ref x, .int 9, .int a1, .int a2, .int a3, .int a4])).length) Slot.unset).toArray = ls at hl ⊢
  have hl : lv_has ls 7 [(0, .ref x), (1, .int 9), (2, .int a1), (3, .int a2), (4, .int a3), (5, .int a4)] := hl
  refine lv_iload_n hx hb dL_does_0 rfl (lv_at hl 1 rfl) ?_
  refine lv_if_ne (tgt := 13) hx hb dL_does_1 (by decide) (fun _ => ?_) (fun c_1 => absurd c_1 (by decide))
  refine lv_iload_n hx hb dL_does_13 rfl (lv_at hl 1 rfl) ?_
  refine lv_iconst (v := 1) hx hb dL_does_14 (by decide) ?_
  refine lv_icmp_ne (tgt := 29) hx hb dL_does_15 (by decide) (fun _ => ?_) (fun c_2 => absurd c_2 (by decide))
  refine lv_iload_n hx hb dL_does_29 rfl (lv_at hl 1 rfl) ?_
  refine lv_iconst (v := 2) hx hb dL_does_30 (by decide) ?_
  refine lv_icmp_ne (tgt := 43) hx hb dL_does_31 (by decide) (fun _ => ?_) (fun c_3 => absurd c_3 (by decide))
  refine lv_iload_n hx hb dL_does_43 rfl (lv_at hl 1 rfl) ?_
  refine lv_iconst (v := 3) hx hb dL_does_44 (by decide) ?_
  refine lv_icmp_ne (tgt := 57) hx hb dL_does_45 (by decide) (fun _ => ?_) (fun c_4 => absurd c_4 (by decide))
  refine lv_iload_n hx hb dL_does_57 rfl (lv_at hl 1 rfl) ?_
  refine lv_iconst (v := 4) hx hb dL_does_58 (by decide) ?_
  refine lv_icmp_ne (tgt := 71) hx hb dL_does_59 (by decide) (fun _ => ?_) (fun c_5 => absurd c_5 (by decide))
  refine lv_iload_n hx hb dL_does_71 rfl (lv_at hl 1 rfl) ?_
  refine lv_iconst (v := 5) hx hb dL_does_72 (by decide) ?_
  refine lv_icmp_ne (tgt := 89) hx hb dL_does_73 (by decide) (fun _ => ?_) (fun c_6 => absurd c_6 (by decide))
  refine lv_iload_n hx hb dL_does_89 rfl (lv_at hl 1 rfl) ?_
  refine lv_bipush (v := 6) hx hb dL_does_90 (by decide) ?_
  refine lv_icmp_ne (tgt := 104) hx hb dL_does_92 (by decide) (fun _ => ?_) (fun c_7 => absurd c_7 (by decide))
  refine lv_iload_n hx hb dL_does_104 rfl (lv_at hl 1 rfl) ?_
  refine lv_bipush (v := 7) hx hb dL_does_105 (by decide) ?_
  refine lv_icmp_ne (tgt := 118) hx hb dL_does_107 (by decide) (fun _ => ?_) (fun c_8 => absurd c_8 (by decide))
  refine lv_iload_n hx hb dL_does_118 rfl (lv_at hl 1 rfl) ?_
  refine lv_bipush (v := 8) hx hb dL_does_119 (by decide) ?_
  refine lv_icmp_ne (tgt := 133) hx hb dL_does_121 (by decide) (fun _ => ?_) (fun c_9 => absurd c_9 (by decide))
  refine lv_aload_n hx hb dL_does_133 rfl (lv_at hl 0 rfl) ?_
  refine lv_iload_n hx hb dL_does_134 rfl (lv_at hl 2 rfl) ?_
  refine z_xcalli (vx_runV (As := [.int a1]) (rest := []) ⟨hx, hb, hml, hown, hts⟩ (l_conv (n := n) (r := r) (A := A) (cd := (cd_pass B a1)) (an := (an_pass B a1)) (B' := (up_pass B a1)) (fun w ad hR hJ => c5_pass l hl9 D cy base w x ad B a1 hR hJ.1 hJ.2.1 hJ.2.2) (fun h hc => JU_pass h hc)) (cwV 1 hts gL_does_X5_pass rfl rfl rfl (by decide +kernel) ⟨Nat.le_of_ble_eq_true rfl, Nat.le_of_ble_eq_true rfl⟩) (z_preV hA hS hH (l_recv hA hH)) rfl rfl hl.1 rfl (lv_room (Nat.le_of_ble_eq_true rfl)) dL_does_135 ⟨(by show _ ≤ (1 : Nat); omega), (by show _ ≤ (6 : Nat); omega)⟩) hS (fun E9 ce9 q9 u9 H locs hw9 hH hz9 hS hce9 hv9 hcl9 => ?_) (fun r9 u9 H locs hw9 hH hz9 hS => ?_)
  · obtain ⟨hthr, hu9⟩ := hw9
    rw [hu9] at hH
    obtain ⟨hc9, rfl⟩ := hthr
    refine vx_catch (name := zIae) hown [⟨0, 138, 139, 44⟩] ⟨0, 138, 144, 46⟩ [⟨0, 138, 149, 48⟩] htb (by
      intro z9 h9
      simp only [List.mem_cons, List.not_mem_nil, or_false] at h9
      rcases h9 with rfl
      · exact Or.inr ⟨by decide, zIob, hts (.classLink RL 44 zIob) (by decide +kernel), hA.2.2.2.2.2.2.2.2.1⟩) rfl (by decide) (hts (.classLink RL 46 zIae) (by decide +kernel)) (castable_self hcl9) hce9 hv9 hcl9 ?_
    refine W.eq (g2 := F0 m 144 ls [.ref q9]) rfl ?_
    refine lv_astore (lv' := [(6, .ref q9), (0, .ref x), (1, .int 9), (2, .int a1), (3, .int a2), (4, .int a3), (5, .int a4)]) hx hb dL_does_144 hl (by decide) rfl (fun ls hl => ?_)
    refine lv_bipush (v := (-20)) hx hb dL_does_146 (by decide) ?_
    refine vx_ret ?_
    exact z_iret hx hb hr hlocks hH hS (Or.inr (⟨hc9, rfl, rfl⟩)) (by omega) (by omega) dL_does_148
  · obtain ⟨hc9, rfl, hu9⟩ := hw9
    rw [hu9] at hH
    refine vx_ret ?_
    exact z_iret hx hb hr hlocks hH hS (Or.inl (⟨hc9, rfl, rfl⟩)) (by omega) (by omega) dL_does_138
set_option maxHeartbeats 8000000 in
set_option maxRecDepth 100000 in
theorem za_release (l : Launch) (hl9 : l.stackTraces = false) (D : va_G) (cy : Nat → ClassId) (base x : Nat) (r : Nat → Nat) (n : Nat) (B A : mB) (a1 a2 : Int32) (hcd : ¬ (cd_P B a1) = 0) : vx_Met l yL_asks wsL_asks ({ frames := 8, cells := 1, slots := 6, locals := 133 }) (zPc D cy base (lH D cy base x r n) [.ref x, .int 0, .int a1, .int a2] (B, A)) (zQi base (lH D cy base x r n) (fun (r0 : Int32) (u0 : lU) => r0 = (-30) ∧ u0 = (B, A))) (zXC base (lH D cy base x r n) (fun (_ : String) (_ : lU) => False)) 1 6 (fun q => base ≤ q) := by
  refine vx_ofWH (cc := cL_asks) (maxL := 5) (ret := (some .int)) (hh := [(0, 143, 144, 44)]) (by decide) rfl ?_
  intro p e s m args below meth c s₁ B9 hml hv
  obtain ⟨rfl, hA, hH⟩ := hv
  have hx := B9.exec
  have hb := B9.bytes
  have hr := B9.returns
  have hts := atoms_spec (ws := wsL_asks) B9.pre
  have hown : s.vm.findClass RL = some m.cls := findClass_of_methodNamed B9.named
  have hlocks := B9.notSynchronized
  have htb : c.exceptionTable.toList = [⟨0, 143, 144, 44⟩] := vx_table (x := yL_asks) B9 (hts (.codeWith yL_asks cL_asks 5 (some .int) [(0, 143, 144, 44)]) (by decide +kernel))
  have hS : va_S (fun q : Nat => base ≤ q) s.heap s.heap [] := va_S.rf
  have hl := lv_entry ([.ref x, .int 0, .int a1, .int a2]) (n := 5) (Nat.le_of_ble_eq_true rfl)
  rw [lg_entry_eq]
  generalize (lg_sl ([.ref x, .int 0, .int a1, .int a2]) ++ List.replicate (5 - (lg_sl ([.ref x, .int 0, .int a1, .int a2])).length) Slot.unset).toArray = ls at hl ⊢
  have hl : lv_has ls 5 [(0, .ref x), (1, .int 0), (2, .int a1), (3, .int a2)] := hl
  refine lv_iload_n hx hb dL_asks_0 rfl (lv_at hl 1 rfl) ?_
  refine lv_if_ne (tgt := 12) hx hb dL_asks_1 (by decide) (fun c_1 => absurd c_1 (by decide)) (fun _ => ?_)
  refine lv_aload_n hx hb dL_asks_4 rfl (lv_at hl 0 rfl) ?_
  refine lv_iload_n hx hb dL_asks_5 rfl (lv_at hl 2 rfl) ?_
  refine z_xcalli (vx_runV (As := [.int a1]) (rest := []) ⟨hx, hb, hml, hown, hts⟩ (l_conv (n := n) (r := r) (A := A) (cd := (cd_P B a1)) (an := (an_release B a1)) (B' := B) (fun w ad hR hJ => c5_release l hl9 D cy base w x ad B a1 hR hJ.1 hJ.2.1) (fun h _ => h)) (cwV 1 hts gL_asks_X5_release rfl rfl rfl (by decide +kernel) ⟨Nat.le_of_ble_eq_true rfl, Nat.le_of_ble_eq_true rfl⟩) (z_preV hA hS hH (l_recv hA hH)) rfl rfl hl.1 rfl (lv_room (Nat.le_of_ble_eq_true rfl)) dL_asks_6 ⟨(by show _ ≤ (1 : Nat); omega), (by show _ ≤ (6 : Nat); omega)⟩) hS (fun E9 ce9 q9 u9 H locs hw9 hH hz9 hS hce9 hv9 hcl9 => ?_) (fun r9 u9 H locs hw9 hH hz9 hS => ?_)
  · obtain ⟨hthr, hu9⟩ := hw9
    rw [hu9] at hH
    obtain ⟨hc9, rfl⟩ := hthr
    refine vx_catch (name := zIob) hown [] ⟨0, 143, 144, 44⟩ [] htb (fun z9 h9 => nomatch h9) rfl (by decide) (hts (.classLink RL 44 zIob) (by decide +kernel)) (castable_self hcl9) hce9 hv9 hcl9 ?_
    refine W.eq (g2 := F0 m 144 ls [.ref q9]) rfl ?_
    refine lv_astore (lv' := [(4, .ref q9), (0, .ref x), (1, .int 0), (2, .int a1), (3, .int a2)]) hx hb dL_asks_144 hl (by decide) rfl (fun ls hl => ?_)
    refine lv_bipush (v := (-30)) hx hb dL_asks_146 (by decide) ?_
    refine vx_ret ?_
    exact z_iret hx hb hr hlocks hH hS (⟨rfl, rfl⟩) (by omega) (by omega) dL_asks_148
  · obtain ⟨hc9, rfl, hu9⟩ := hw9
    exact absurd hc9 hcd
set_option maxHeartbeats 8000000 in
set_option maxRecDepth 100000 in
theorem za_isIn (l : Launch) (hl9 : l.stackTraces = false) (D : va_G) (cy : Nat → ClassId) (base x : Nat) (r : Nat → Nat) (n : Nat) (B A : mB) (a1 a2 : Int32) (hcd : ¬ (cd_P B a1) = 0) : vx_Met l yL_asks wsL_asks ({ frames := 8, cells := 1, slots := 6, locals := 133 }) (zPc D cy base (lH D cy base x r n) [.ref x, .int 1, .int a1, .int a2] (B, A)) (zQi base (lH D cy base x r n) (fun (r0 : Int32) (u0 : lU) => r0 = (-30) ∧ u0 = (B, A))) (zXC base (lH D cy base x r n) (fun (_ : String) (_ : lU) => False)) 1 6 (fun q => base ≤ q) := by
  refine vx_ofWH (cc := cL_asks) (maxL := 5) (ret := (some .int)) (hh := [(0, 143, 144, 44)]) (by decide) rfl ?_
  intro p e s m args below meth c s₁ B9 hml hv
  obtain ⟨rfl, hA, hH⟩ := hv
  have hx := B9.exec
  have hb := B9.bytes
  have hr := B9.returns
  have hts := atoms_spec (ws := wsL_asks) B9.pre
  have hown : s.vm.findClass RL = some m.cls := findClass_of_methodNamed B9.named
  have hlocks := B9.notSynchronized
  have htb : c.exceptionTable.toList = [⟨0, 143, 144, 44⟩] := vx_table (x := yL_asks) B9 (hts (.codeWith yL_asks cL_asks 5 (some .int) [(0, 143, 144, 44)]) (by decide +kernel))
  have hS : va_S (fun q : Nat => base ≤ q) s.heap s.heap [] := va_S.rf
  have hl := lv_entry ([.ref x, .int 1, .int a1, .int a2]) (n := 5) (Nat.le_of_ble_eq_true rfl)
  rw [lg_entry_eq]
  generalize (lg_sl ([.ref x, .int 1, .int a1, .int a2]) ++ List.replicate (5 - (lg_sl ([.ref x, .int 1, .int a1, .int a2])).length) Slot.unset).toArray = ls at hl ⊢
  have hl : lv_has ls 5 [(0, .ref x), (1, .int 1), (2, .int a1), (3, .int a2)] := hl
  refine lv_iload_n hx hb dL_asks_0 rfl (lv_at hl 1 rfl) ?_
  refine lv_if_ne (tgt := 12) hx hb dL_asks_1 (by decide) (fun _ => ?_) (fun c_1 => absurd c_1 (by decide))
  refine lv_iload_n hx hb dL_asks_12 rfl (lv_at hl 1 rfl) ?_
  refine lv_iconst (v := 1) hx hb dL_asks_13 (by decide) ?_
  refine lv_icmp_ne (tgt := 33) hx hb dL_asks_14 (by decide) (fun c_2 => absurd c_2 (by decide)) (fun _ => ?_)
  refine lv_aload_n hx hb dL_asks_17 rfl (lv_at hl 0 rfl) ?_
  refine lv_iload_n hx hb dL_asks_18 rfl (lv_at hl 2 rfl) ?_
  refine z_xcalli (vx_runV (As := [.int a1]) (rest := []) ⟨hx, hb, hml, hown, hts⟩ (l_conv (n := n) (r := r) (A := A) (cd := (cd_P B a1)) (an := (an_isIn B a1)) (B' := B) (fun w ad hR hJ => c5_isIn l hl9 D cy base w x ad B a1 hR hJ.1 hJ.2.1) (fun h _ => h)) (cwV 1 hts gL_asks_X5_isIn rfl rfl rfl (by decide +kernel) ⟨Nat.le_of_ble_eq_true rfl, Nat.le_of_ble_eq_true rfl⟩) (z_preV hA hS hH (l_recv hA hH)) rfl rfl hl.1 rfl (lv_room (Nat.le_of_ble_eq_true rfl)) dL_asks_19 ⟨(by show _ ≤ (1 : Nat); omega), (by show _ ≤ (6 : Nat); omega)⟩) hS (fun E9 ce9 q9 u9 H locs hw9 hH hz9 hS hce9 hv9 hcl9 => ?_) (fun r9 u9 H locs hw9 hH hz9 hS => ?_)
  · obtain ⟨hthr, hu9⟩ := hw9
    rw [hu9] at hH
    obtain ⟨hc9, rfl⟩ := hthr
    refine vx_catch (name := zIob) hown [] ⟨0, 143, 144, 44⟩ [] htb (fun z9 h9 => nomatch h9) rfl (by decide) (hts (.classLink RL 44 zIob) (by decide +kernel)) (castable_self hcl9) hce9 hv9 hcl9 ?_
    refine W.eq (g2 := F0 m 144 ls [.ref q9]) rfl ?_
    refine lv_astore (lv' := [(4, .ref q9), (0, .ref x), (1, .int 1), (2, .int a1), (3, .int a2)]) hx hb dL_asks_144 hl (by decide) rfl (fun ls hl => ?_)
    refine lv_bipush (v := (-30)) hx hb dL_asks_146 (by decide) ?_
    refine vx_ret ?_
    exact z_iret hx hb hr hlocks hH hS (⟨rfl, rfl⟩) (by omega) (by omega) dL_asks_148
  · obtain ⟨hc9, rfl, hu9⟩ := hw9
    exact absurd hc9 hcd
set_option maxHeartbeats 8000000 in
set_option maxRecDepth 100000 in
theorem za_regime (l : Launch) (hl9 : l.stackTraces = false) (D : va_G) (cy : Nat → ClassId) (base x : Nat) (r : Nat → Nat) (n : Nat) (B A : mB) (a1 a2 : Int32) (hcd : ¬ (cd_P B a1) = 0) : vx_Met l yL_asks wsL_asks ({ frames := 8, cells := 1, slots := 6, locals := 133 }) (zPc D cy base (lH D cy base x r n) [.ref x, .int 2, .int a1, .int a2] (B, A)) (zQi base (lH D cy base x r n) (fun (r0 : Int32) (u0 : lU) => r0 = (-30) ∧ u0 = (B, A))) (zXC base (lH D cy base x r n) (fun (_ : String) (_ : lU) => False)) 1 6 (fun q => base ≤ q) := by
  refine vx_ofWH (cc := cL_asks) (maxL := 5) (ret := (some .int)) (hh := [(0, 143, 144, 44)]) (by decide) rfl ?_
  intro p e s m args below meth c s₁ B9 hml hv
  obtain ⟨rfl, hA, hH⟩ := hv
  have hx := B9.exec
  have hb := B9.bytes
  have hr := B9.returns
  have hts := atoms_spec (ws := wsL_asks) B9.pre
  have hown : s.vm.findClass RL = some m.cls := findClass_of_methodNamed B9.named
  have hlocks := B9.notSynchronized
  have htb : c.exceptionTable.toList = [⟨0, 143, 144, 44⟩] := vx_table (x := yL_asks) B9 (hts (.codeWith yL_asks cL_asks 5 (some .int) [(0, 143, 144, 44)]) (by decide +kernel))
  have hS : va_S (fun q : Nat => base ≤ q) s.heap s.heap [] := va_S.rf
  have hl := lv_entry ([.ref x, .int 2, .int a1, .int a2]) (n := 5) (Nat.le_of_ble_eq_true rfl)
  rw [lg_entry_eq]
  generalize (lg_sl ([.ref x, .int 2, .int a1, .int a2]) ++ List.replicate (5 - (lg_sl ([.ref x, .int 2, .int a1, .int a2])).length) Slot.unset).toArray = ls at hl ⊢
  have hl : lv_has ls 5 [(0, .ref x), (1, .int 2), (2, .int a1), (3, .int a2)] := hl
  refine lv_iload_n hx hb dL_asks_0 rfl (lv_at hl 1 rfl) ?_
  refine lv_if_ne (tgt := 12) hx hb dL_asks_1 (by decide) (fun _ => ?_) (fun c_1 => absurd c_1 (by decide))
  refine lv_iload_n hx hb dL_asks_12 rfl (lv_at hl 1 rfl) ?_
  refine lv_iconst (v := 1) hx hb dL_asks_13 (by decide) ?_
  refine lv_icmp_ne (tgt := 33) hx hb dL_asks_14 (by decide) (fun _ => ?_) (fun c_2 => absurd c_2 (by decide))
  refine lv_iload_n hx hb dL_asks_33 rfl (lv_at hl 1 rfl) ?_
  refine lv_iconst (v := 2) hx hb dL_asks_34 (by decide) ?_
  refine lv_icmp_ne (tgt := 46) hx hb dL_asks_35 (by decide) (fun c_3 => absurd c_3 (by decide)) (fun _ => ?_)
  refine lv_aload_n hx hb dL_asks_38 rfl (lv_at hl 0 rfl) ?_
  refine lv_iload_n hx hb dL_asks_39 rfl (lv_at hl 2 rfl) ?_
  refine z_xcalli (vx_runV (As := [.int a1]) (rest := []) ⟨hx, hb, hml, hown, hts⟩ (l_conv (n := n) (r := r) (A := A) (cd := (cd_P B a1)) (an := (an_of B 6 a1)) (B' := B) (fun w ad hR hJ => c5_regime l hl9 D cy base w x ad B a1 hR hJ.1 hJ.2.1) (fun h _ => h)) (cwV 1 hts gL_asks_X5_regime rfl rfl rfl (by decide +kernel) ⟨Nat.le_of_ble_eq_true rfl, Nat.le_of_ble_eq_true rfl⟩) (z_preV hA hS hH (l_recv hA hH)) rfl rfl hl.1 rfl (lv_room (Nat.le_of_ble_eq_true rfl)) dL_asks_40 ⟨(by show _ ≤ (1 : Nat); omega), (by show _ ≤ (6 : Nat); omega)⟩) hS (fun E9 ce9 q9 u9 H locs hw9 hH hz9 hS hce9 hv9 hcl9 => ?_) (fun r9 u9 H locs hw9 hH hz9 hS => ?_)
  · obtain ⟨hthr, hu9⟩ := hw9
    rw [hu9] at hH
    obtain ⟨hc9, rfl⟩ := hthr
    refine vx_catch (name := zIob) hown [] ⟨0, 143, 144, 44⟩ [] htb (fun z9 h9 => nomatch h9) rfl (by decide) (hts (.classLink RL 44 zIob) (by decide +kernel)) (castable_self hcl9) hce9 hv9 hcl9 ?_
    refine W.eq (g2 := F0 m 144 ls [.ref q9]) rfl ?_
    refine lv_astore (lv' := [(4, .ref q9), (0, .ref x), (1, .int 2), (2, .int a1), (3, .int a2)]) hx hb dL_asks_144 hl (by decide) rfl (fun ls hl => ?_)
    refine lv_bipush (v := (-30)) hx hb dL_asks_146 (by decide) ?_
    refine vx_ret ?_
    exact z_iret hx hb hr hlocks hH hS (⟨rfl, rfl⟩) (by omega) (by omega) dL_asks_148
  · obtain ⟨hc9, rfl, hu9⟩ := hw9
    exact absurd hc9 hcd
set_option maxHeartbeats 8000000 in
set_option maxRecDepth 100000 in
theorem za_papers (l : Launch) (hl9 : l.stackTraces = false) (D : va_G) (cy : Nat → ClassId) (base x : Nat) (r : Nat → Nat) (n : Nat) (B A : mB) (a1 : Int32) (hcd : ¬ (cd_P B a1) = 0) : vx_Met l yL_asks wsL_asks ({ frames := 8, cells := 1, slots := 6, locals := 135 }) (zPc D cy base (lH D cy base x r n) [.ref x, .int 3, .int a1, .int 0] (B, A)) (zQi base (lH D cy base x r n) (fun (r0 : Int32) (u0 : lU) => r0 = (-30) ∧ u0 = (B, A))) (zXC base (lH D cy base x r n) (fun (_ : String) (_ : lU) => False)) 1 6 (fun q => base ≤ q) := by
  refine vx_ofWH (cc := cL_asks) (maxL := 5) (ret := (some .int)) (hh := [(0, 143, 144, 44)]) (by decide) rfl ?_
  intro p e s m args below meth c s₁ B9 hml hv
  obtain ⟨rfl, hA, hH⟩ := hv
  have hx := B9.exec
  have hb := B9.bytes
  have hr := B9.returns
  have hts := atoms_spec (ws := wsL_asks) B9.pre
  have hown : s.vm.findClass RL = some m.cls := findClass_of_methodNamed B9.named
  have hlocks := B9.notSynchronized
  have htb : c.exceptionTable.toList = [⟨0, 143, 144, 44⟩] := vx_table (x := yL_asks) B9 (hts (.codeWith yL_asks cL_asks 5 (some .int) [(0, 143, 144, 44)]) (by decide +kernel))
  have hS : va_S (fun q : Nat => base ≤ q) s.heap s.heap [] := va_S.rf
  have hl := lv_entry ([.ref x, .int 3, .int a1, .int 0]) (n := 5) (Nat.le_of_ble_eq_true rfl)
  rw [lg_entry_eq]
  generalize (lg_sl ([.ref x, .int 3, .int a1, .int 0]) ++ List.replicate (5 - (lg_sl ([.ref x, .int 3, .int a1, .int 0])).length) Slot.unset).toArray = ls at hl ⊢
  have hl : lv_has ls 5 [(0, .ref x), (1, .int 3), (2, .int a1), (3, .int 0)] := hl
  refine lv_iload_n hx hb dL_asks_0 rfl (lv_at hl 1 rfl) ?_
  refine lv_if_ne (tgt := 12) hx hb dL_asks_1 (by decide) (fun _ => ?_) (fun c_1 => absurd c_1 (by decide))
  refine lv_iload_n hx hb dL_asks_12 rfl (lv_at hl 1 rfl) ?_
  refine lv_iconst (v := 1) hx hb dL_asks_13 (by decide) ?_
  refine lv_icmp_ne (tgt := 33) hx hb dL_asks_14 (by decide) (fun _ => ?_) (fun c_2 => absurd c_2 (by decide))
  refine lv_iload_n hx hb dL_asks_33 rfl (lv_at hl 1 rfl) ?_
  refine lv_iconst (v := 2) hx hb dL_asks_34 (by decide) ?_
  refine lv_icmp_ne (tgt := 46) hx hb dL_asks_35 (by decide) (fun _ => ?_) (fun c_3 => absurd c_3 (by decide))
  refine lv_iload_n hx hb dL_asks_46 rfl (lv_at hl 1 rfl) ?_
  refine lv_iconst (v := 3) hx hb dL_asks_47 (by decide) ?_
  refine lv_icmp_ne (tgt := 69) hx hb dL_asks_48 (by decide) (fun c_4 => absurd c_4 (by decide)) (fun _ => ?_)
  refine lv_aload_n hx hb dL_asks_51 rfl (lv_at hl 0 rfl) ?_
  refine lv_iload_n hx hb dL_asks_52 rfl (lv_at hl 2 rfl) ?_
  refine lv_iload_n hx hb dL_asks_53 rfl (lv_at hl 3 rfl) ?_
  refine lv_iconst (v := 1) hx hb dL_asks_54 (by decide) ?_
  refine lv_icmp_ne (tgt := 62) hx hb dL_asks_55 (by decide) (fun _ => ?_) (fun c_5 => absurd c_5 (by decide))
  refine lv_iconst (v := 0) hx hb dL_asks_62 (by decide) ?_
  refine z_xcalli (vx_runV (As := [.int a1, .int 0]) (rest := []) ⟨hx, hb, hml, hown, hts⟩ (l_conv (n := n) (r := r) (A := A) (cd := (cd_P B a1)) (an := (an_papers B a1 0)) (B' := B) (fun w ad hR hJ => c5_papers l hl9 D cy base w x ad B a1 0 hR hJ.1 hJ.2.1) (fun h _ => h)) (cwV 2 hts gL_asks_X5_papers rfl rfl rfl (by decide +kernel) ⟨Nat.le_of_ble_eq_true rfl, Nat.le_of_ble_eq_true rfl⟩) (z_preV hA hS hH (l_recv hA hH)) rfl rfl hl.1 rfl (lv_room (Nat.le_of_ble_eq_true rfl)) dL_asks_63 ⟨(by show _ ≤ (1 : Nat); omega), (by show _ ≤ (6 : Nat); omega)⟩) hS (fun E9 ce9 q9 u9 H locs hw9 hH hz9 hS hce9 hv9 hcl9 => ?_) (fun r9 u9 H locs hw9 hH hz9 hS => ?_)
  · obtain ⟨hthr, hu9⟩ := hw9
    rw [hu9] at hH
    obtain ⟨hc9, rfl⟩ := hthr
    refine vx_catch (name := zIob) hown [] ⟨0, 143, 144, 44⟩ [] htb (fun z9 h9 => nomatch h9) rfl (by decide) (hts (.classLink RL 44 zIob) (by decide +kernel)) (castable_self hcl9) hce9 hv9 hcl9 ?_
    refine W.eq (g2 := F0 m 144 ls [.ref q9]) rfl ?_
    refine lv_astore (lv' := [(4, .ref q9), (0, .ref x), (1, .int 3), (2, .int a1), (3, .int 0)]) hx hb dL_asks_144 hl (by decide) rfl (fun ls hl => ?_)
    refine lv_bipush (v := (-30)) hx hb dL_asks_146 (by decide) ?_
    refine vx_ret ?_
    exact z_iret hx hb hr hlocks hH hS (⟨rfl, rfl⟩) (by omega) (by omega) dL_asks_148
  · obtain ⟨hc9, rfl, hu9⟩ := hw9
    exact absurd hc9 hcd
set_option maxHeartbeats 8000000 in
set_option maxRecDepth 100000 in
theorem za_toolsOut (l : Launch) (hl9 : l.stackTraces = false) (D : va_G) (cy : Nat → ClassId) (base x : Nat) (r : Nat → Nat) (n : Nat) (B A : mB) (a1 a2 : Int32) (hcd : ¬ (cd_K B a1) = 0) : vx_Met l yL_asks wsL_asks ({ frames := 8, cells := 1, slots := 6, locals := 133 }) (zPc D cy base (lH D cy base x r n) [.ref x, .int 4, .int a1, .int a2] (B, A)) (zQi base (lH D cy base x r n) (fun (r0 : Int32) (u0 : lU) => r0 = (-30) ∧ u0 = (B, A))) (zXC base (lH D cy base x r n) (fun (_ : String) (_ : lU) => False)) 1 6 (fun q => base ≤ q) := by
  refine vx_ofWH (cc := cL_asks) (maxL := 5) (ret := (some .int)) (hh := [(0, 143, 144, 44)]) (by decide) rfl ?_
  intro p e s m args below meth c s₁ B9 hml hv
  obtain ⟨rfl, hA, hH⟩ := hv
  have hx := B9.exec
  have hb := B9.bytes
  have hr := B9.returns
  have hts := atoms_spec (ws := wsL_asks) B9.pre
  have hown : s.vm.findClass RL = some m.cls := findClass_of_methodNamed B9.named
  have hlocks := B9.notSynchronized
  have htb : c.exceptionTable.toList = [⟨0, 143, 144, 44⟩] := vx_table (x := yL_asks) B9 (hts (.codeWith yL_asks cL_asks 5 (some .int) [(0, 143, 144, 44)]) (by decide +kernel))
  have hS : va_S (fun q : Nat => base ≤ q) s.heap s.heap [] := va_S.rf
  have hl := lv_entry ([.ref x, .int 4, .int a1, .int a2]) (n := 5) (Nat.le_of_ble_eq_true rfl)
  rw [lg_entry_eq]
  generalize (lg_sl ([.ref x, .int 4, .int a1, .int a2]) ++ List.replicate (5 - (lg_sl ([.ref x, .int 4, .int a1, .int a2])).length) Slot.unset).toArray = ls at hl ⊢
  have hl : lv_has ls 5 [(0, .ref x), (1, .int 4), (2, .int a1), (3, .int a2)] := hl
  refine lv_iload_n hx hb dL_asks_0 rfl (lv_at hl 1 rfl) ?_
  refine lv_if_ne (tgt := 12) hx hb dL_asks_1 (by decide) (fun _ => ?_) (fun c_1 => absurd c_1 (by decide))
  refine lv_iload_n hx hb dL_asks_12 rfl (lv_at hl 1 rfl) ?_
  refine lv_iconst (v := 1) hx hb dL_asks_13 (by decide) ?_
  refine lv_icmp_ne (tgt := 33) hx hb dL_asks_14 (by decide) (fun _ => ?_) (fun c_2 => absurd c_2 (by decide))
  refine lv_iload_n hx hb dL_asks_33 rfl (lv_at hl 1 rfl) ?_
  refine lv_iconst (v := 2) hx hb dL_asks_34 (by decide) ?_
  refine lv_icmp_ne (tgt := 46) hx hb dL_asks_35 (by decide) (fun _ => ?_) (fun c_3 => absurd c_3 (by decide))
  refine lv_iload_n hx hb dL_asks_46 rfl (lv_at hl 1 rfl) ?_
  refine lv_iconst (v := 3) hx hb dL_asks_47 (by decide) ?_
  refine lv_icmp_ne (tgt := 69) hx hb dL_asks_48 (by decide) (fun _ => ?_) (fun c_4 => absurd c_4 (by decide))
  refine lv_iload_n hx hb dL_asks_69 rfl (lv_at hl 1 rfl) ?_
  refine lv_iconst (v := 4) hx hb dL_asks_70 (by decide) ?_
  refine lv_icmp_ne (tgt := 82) hx hb dL_asks_71 (by decide) (fun c_5 => absurd c_5 (by decide)) (fun _ => ?_)
  refine lv_aload_n hx hb dL_asks_74 rfl (lv_at hl 0 rfl) ?_
  refine lv_iload_n hx hb dL_asks_75 rfl (lv_at hl 2 rfl) ?_
  refine z_xcalli (vx_runV (As := [.int a1]) (rest := []) ⟨hx, hb, hml, hown, hts⟩ (l_conv (n := n) (r := r) (A := A) (cd := (cd_K B a1)) (an := (an_toolsOut B a1)) (B' := B) (fun w ad hR hJ => c5_toolsOut l hl9 D cy base w x ad B a1 hR hJ.1 hJ.2.1) (fun h _ => h)) (cwV 1 hts gL_asks_X5_toolsOut rfl rfl rfl (by decide +kernel) ⟨Nat.le_of_ble_eq_true rfl, Nat.le_of_ble_eq_true rfl⟩) (z_preV hA hS hH (l_recv hA hH)) rfl rfl hl.1 rfl (lv_room (Nat.le_of_ble_eq_true rfl)) dL_asks_76 ⟨(by show _ ≤ (1 : Nat); omega), (by show _ ≤ (6 : Nat); omega)⟩) hS (fun E9 ce9 q9 u9 H locs hw9 hH hz9 hS hce9 hv9 hcl9 => ?_) (fun r9 u9 H locs hw9 hH hz9 hS => ?_)
  · obtain ⟨hthr, hu9⟩ := hw9
    rw [hu9] at hH
    obtain ⟨hc9, rfl⟩ := hthr
    refine vx_catch (name := zIob) hown [] ⟨0, 143, 144, 44⟩ [] htb (fun z9 h9 => nomatch h9) rfl (by decide) (hts (.classLink RL 44 zIob) (by decide +kernel)) (castable_self hcl9) hce9 hv9 hcl9 ?_
    refine W.eq (g2 := F0 m 144 ls [.ref q9]) rfl ?_
    refine lv_astore (lv' := [(4, .ref q9), (0, .ref x), (1, .int 4), (2, .int a1), (3, .int a2)]) hx hb dL_asks_144 hl (by decide) rfl (fun ls hl => ?_)
    refine lv_bipush (v := (-30)) hx hb dL_asks_146 (by decide) ?_
    refine vx_ret ?_
    exact z_iret hx hb hr hlocks hH hS (⟨rfl, rfl⟩) (by omega) (by omega) dL_asks_148
  · obtain ⟨hc9, rfl, hu9⟩ := hw9
    exact absurd hc9 hcd
set_option maxHeartbeats 8000000 in
set_option maxRecDepth 100000 in
theorem za_orderOf (l : Launch) (hl9 : l.stackTraces = false) (D : va_G) (cy : Nat → ClassId) (base x : Nat) (r : Nat → Nat) (n : Nat) (B A : mB) (a1 a2 : Int32) (hcd : ¬ (cd_P B a1) = 0) : vx_Met l yL_asks wsL_asks ({ frames := 8, cells := 1, slots := 6, locals := 134 }) (zPc D cy base (lH D cy base x r n) [.ref x, .int 5, .int a1, .int a2] (B, A)) (zQi base (lH D cy base x r n) (fun (r0 : Int32) (u0 : lU) => r0 = (-30) ∧ u0 = (B, A))) (zXC base (lH D cy base x r n) (fun (_ : String) (_ : lU) => False)) 1 6 (fun q => base ≤ q) := by
  refine vx_ofWH (cc := cL_asks) (maxL := 5) (ret := (some .int)) (hh := [(0, 143, 144, 44)]) (by decide) rfl ?_
  intro p e s m args below meth c s₁ B9 hml hv
  obtain ⟨rfl, hA, hH⟩ := hv
  have hx := B9.exec
  have hb := B9.bytes
  have hr := B9.returns
  have hts := atoms_spec (ws := wsL_asks) B9.pre
  have hown : s.vm.findClass RL = some m.cls := findClass_of_methodNamed B9.named
  have hlocks := B9.notSynchronized
  have htb : c.exceptionTable.toList = [⟨0, 143, 144, 44⟩] := vx_table (x := yL_asks) B9 (hts (.codeWith yL_asks cL_asks 5 (some .int) [(0, 143, 144, 44)]) (by decide +kernel))
  have hS : va_S (fun q : Nat => base ≤ q) s.heap s.heap [] := va_S.rf
  have hl := lv_entry ([.ref x, .int 5, .int a1, .int a2]) (n := 5) (Nat.le_of_ble_eq_true rfl)
  rw [lg_entry_eq]
  generalize (lg_sl ([.ref x, .int 5, .int a1, .int a2]) ++ List.replicate (5 - (lg_sl ([.ref x, .int 5, .int a1, .int a2])).length) Slot.unset).toArray = ls at hl ⊢
  have hl : lv_has ls 5 [(0, .ref x), (1, .int 5), (2, .int a1), (3, .int a2)] := hl
  refine lv_iload_n hx hb dL_asks_0 rfl (lv_at hl 1 rfl) ?_
  refine lv_if_ne (tgt := 12) hx hb dL_asks_1 (by decide) (fun _ => ?_) (fun c_1 => absurd c_1 (by decide))
  refine lv_iload_n hx hb dL_asks_12 rfl (lv_at hl 1 rfl) ?_
  refine lv_iconst (v := 1) hx hb dL_asks_13 (by decide) ?_
  refine lv_icmp_ne (tgt := 33) hx hb dL_asks_14 (by decide) (fun _ => ?_) (fun c_2 => absurd c_2 (by decide))
  refine lv_iload_n hx hb dL_asks_33 rfl (lv_at hl 1 rfl) ?_
  refine lv_iconst (v := 2) hx hb dL_asks_34 (by decide) ?_
  refine lv_icmp_ne (tgt := 46) hx hb dL_asks_35 (by decide) (fun _ => ?_) (fun c_3 => absurd c_3 (by decide))
  refine lv_iload_n hx hb dL_asks_46 rfl (lv_at hl 1 rfl) ?_
  refine lv_iconst (v := 3) hx hb dL_asks_47 (by decide) ?_
  refine lv_icmp_ne (tgt := 69) hx hb dL_asks_48 (by decide) (fun _ => ?_) (fun c_4 => absurd c_4 (by decide))
  refine lv_iload_n hx hb dL_asks_69 rfl (lv_at hl 1 rfl) ?_
  refine lv_iconst (v := 4) hx hb dL_asks_70 (by decide) ?_
  refine lv_icmp_ne (tgt := 82) hx hb dL_asks_71 (by decide) (fun _ => ?_) (fun c_5 => absurd c_5 (by decide))
  refine lv_iload_n hx hb dL_asks_82 rfl (lv_at hl 1 rfl) ?_
  refine lv_iconst (v := 5) hx hb dL_asks_83 (by decide) ?_
  refine lv_icmp_ne (tgt := 95) hx hb dL_asks_84 (by decide) (fun c_6 => absurd c_6 (by decide)) (fun _ => ?_)
  refine lv_aload_n hx hb dL_asks_87 rfl (lv_at hl 0 rfl) ?_
  refine lv_iload_n hx hb dL_asks_88 rfl (lv_at hl 2 rfl) ?_
  refine z_xcalli (vx_runV (As := [.int a1]) (rest := []) ⟨hx, hb, hml, hown, hts⟩ (l_conv (n := n) (r := r) (A := A) (cd := (cd_P B a1)) (an := (an_of B 11 a1)) (B' := B) (fun w ad hR hJ => c5_orderOf l hl9 D cy base w x ad B a1 hR hJ.1 hJ.2.1) (fun h _ => h)) (cwV 1 hts gL_asks_X5_orderOf rfl rfl rfl (by decide +kernel) ⟨Nat.le_of_ble_eq_true rfl, Nat.le_of_ble_eq_true rfl⟩) (z_preV hA hS hH (l_recv hA hH)) rfl rfl hl.1 rfl (lv_room (Nat.le_of_ble_eq_true rfl)) dL_asks_89 ⟨(by show _ ≤ (1 : Nat); omega), (by show _ ≤ (6 : Nat); omega)⟩) hS (fun E9 ce9 q9 u9 H locs hw9 hH hz9 hS hce9 hv9 hcl9 => ?_) (fun r9 u9 H locs hw9 hH hz9 hS => ?_)
  · obtain ⟨hthr, hu9⟩ := hw9
    rw [hu9] at hH
    obtain ⟨hc9, rfl⟩ := hthr
    refine vx_catch (name := zIob) hown [] ⟨0, 143, 144, 44⟩ [] htb (fun z9 h9 => nomatch h9) rfl (by decide) (hts (.classLink RL 44 zIob) (by decide +kernel)) (castable_self hcl9) hce9 hv9 hcl9 ?_
    refine W.eq (g2 := F0 m 144 ls [.ref q9]) rfl ?_
    refine lv_astore (lv' := [(4, .ref q9), (0, .ref x), (1, .int 5), (2, .int a1), (3, .int a2)]) hx hb dL_asks_144 hl (by decide) rfl (fun ls hl => ?_)
    refine lv_bipush (v := (-30)) hx hb dL_asks_146 (by decide) ?_
    refine vx_ret ?_
    exact z_iret hx hb hr hlocks hH hS (⟨rfl, rfl⟩) (by omega) (by omega) dL_asks_148
  · obtain ⟨hc9, rfl, hu9⟩ := hw9
    exact absurd hc9 hcd
set_option maxHeartbeats 8000000 in
set_option maxRecDepth 100000 in
theorem za_left (l : Launch) (hl9 : l.stackTraces = false) (D : va_G) (cy : Nat → ClassId) (base x : Nat) (r : Nat → Nat) (n : Nat) (B A : mB) (a1 a2 : Int32) (hcd : ¬ (cd_O B a1) = 0) : vx_Met l yL_asks wsL_asks ({ frames := 8, cells := 1, slots := 6, locals := 133 }) (zPc D cy base (lH D cy base x r n) [.ref x, .int 6, .int a1, .int a2] (B, A)) (zQi base (lH D cy base x r n) (fun (r0 : Int32) (u0 : lU) => r0 = (-30) ∧ u0 = (B, A))) (zXC base (lH D cy base x r n) (fun (_ : String) (_ : lU) => False)) 1 6 (fun q => base ≤ q) := by
  refine vx_ofWH (cc := cL_asks) (maxL := 5) (ret := (some .int)) (hh := [(0, 143, 144, 44)]) (by decide) rfl ?_
  intro p e s m args below meth c s₁ B9 hml hv
  obtain ⟨rfl, hA, hH⟩ := hv
  have hx := B9.exec
  have hb := B9.bytes
  have hr := B9.returns
  have hts := atoms_spec (ws := wsL_asks) B9.pre
  have hown : s.vm.findClass RL = some m.cls := findClass_of_methodNamed B9.named
  have hlocks := B9.notSynchronized
  have htb : c.exceptionTable.toList = [⟨0, 143, 144, 44⟩] := vx_table (x := yL_asks) B9 (hts (.codeWith yL_asks cL_asks 5 (some .int) [(0, 143, 144, 44)]) (by decide +kernel))
  have hS : va_S (fun q : Nat => base ≤ q) s.heap s.heap [] := va_S.rf
  have hl := lv_entry ([.ref x, .int 6, .int a1, .int a2]) (n := 5) (Nat.le_of_ble_eq_true rfl)
  rw [lg_entry_eq]
  generalize (lg_sl ([.ref x, .int 6, .int a1, .int a2]) ++ List.replicate (5 - (lg_sl ([.ref x, .int 6, .int a1, .int a2])).length) Slot.unset).toArray = ls at hl ⊢
  have hl : lv_has ls 5 [(0, .ref x), (1, .int 6), (2, .int a1), (3, .int a2)] := hl
  refine lv_iload_n hx hb dL_asks_0 rfl (lv_at hl 1 rfl) ?_
  refine lv_if_ne (tgt := 12) hx hb dL_asks_1 (by decide) (fun _ => ?_) (fun c_1 => absurd c_1 (by decide))
  refine lv_iload_n hx hb dL_asks_12 rfl (lv_at hl 1 rfl) ?_
  refine lv_iconst (v := 1) hx hb dL_asks_13 (by decide) ?_
  refine lv_icmp_ne (tgt := 33) hx hb dL_asks_14 (by decide) (fun _ => ?_) (fun c_2 => absurd c_2 (by decide))
  refine lv_iload_n hx hb dL_asks_33 rfl (lv_at hl 1 rfl) ?_
  refine lv_iconst (v := 2) hx hb dL_asks_34 (by decide) ?_
  refine lv_icmp_ne (tgt := 46) hx hb dL_asks_35 (by decide) (fun _ => ?_) (fun c_3 => absurd c_3 (by decide))
  refine lv_iload_n hx hb dL_asks_46 rfl (lv_at hl 1 rfl) ?_
  refine lv_iconst (v := 3) hx hb dL_asks_47 (by decide) ?_
  refine lv_icmp_ne (tgt := 69) hx hb dL_asks_48 (by decide) (fun _ => ?_) (fun c_4 => absurd c_4 (by decide))
  refine lv_iload_n hx hb dL_asks_69 rfl (lv_at hl 1 rfl) ?_
  refine lv_iconst (v := 4) hx hb dL_asks_70 (by decide) ?_
  refine lv_icmp_ne (tgt := 82) hx hb dL_asks_71 (by decide) (fun _ => ?_) (fun c_5 => absurd c_5 (by decide))
  refine lv_iload_n hx hb dL_asks_82 rfl (lv_at hl 1 rfl) ?_
  refine lv_iconst (v := 5) hx hb dL_asks_83 (by decide) ?_
  refine lv_icmp_ne (tgt := 95) hx hb dL_asks_84 (by decide) (fun _ => ?_) (fun c_6 => absurd c_6 (by decide))
  refine lv_iload_n hx hb dL_asks_95 rfl (lv_at hl 1 rfl) ?_
  refine lv_bipush (v := 6) hx hb dL_asks_96 (by decide) ?_
  refine lv_icmp_ne (tgt := 109) hx hb dL_asks_98 (by decide) (fun c_7 => absurd c_7 (by decide)) (fun _ => ?_)
  refine lv_aload_n hx hb dL_asks_101 rfl (lv_at hl 0 rfl) ?_
  refine lv_iload_n hx hb dL_asks_102 rfl (lv_at hl 2 rfl) ?_
  refine z_xcalli (vx_runV (As := [.int a1]) (rest := []) ⟨hx, hb, hml, hown, hts⟩ (l_conv (n := n) (r := r) (A := A) (cd := (cd_O B a1)) (an := (an_of B 25 a1)) (B' := B) (fun w ad hR hJ => c5_left l hl9 D cy base w x ad B a1 hR hJ.1 hJ.2.1) (fun h _ => h)) (cwV 1 hts gL_asks_X5_left rfl rfl rfl (by decide +kernel) ⟨Nat.le_of_ble_eq_true rfl, Nat.le_of_ble_eq_true rfl⟩) (z_preV hA hS hH (l_recv hA hH)) rfl rfl hl.1 rfl (lv_room (Nat.le_of_ble_eq_true rfl)) dL_asks_103 ⟨(by show _ ≤ (1 : Nat); omega), (by show _ ≤ (6 : Nat); omega)⟩) hS (fun E9 ce9 q9 u9 H locs hw9 hH hz9 hS hce9 hv9 hcl9 => ?_) (fun r9 u9 H locs hw9 hH hz9 hS => ?_)
  · obtain ⟨hthr, hu9⟩ := hw9
    rw [hu9] at hH
    obtain ⟨hc9, rfl⟩ := hthr
    refine vx_catch (name := zIob) hown [] ⟨0, 143, 144, 44⟩ [] htb (fun z9 h9 => nomatch h9) rfl (by decide) (hts (.classLink RL 44 zIob) (by decide +kernel)) (castable_self hcl9) hce9 hv9 hcl9 ?_
    refine W.eq (g2 := F0 m 144 ls [.ref q9]) rfl ?_
    refine lv_astore (lv' := [(4, .ref q9), (0, .ref x), (1, .int 6), (2, .int a1), (3, .int a2)]) hx hb dL_asks_144 hl (by decide) rfl (fun ls hl => ?_)
    refine lv_bipush (v := (-30)) hx hb dL_asks_146 (by decide) ?_
    refine vx_ret ?_
    exact z_iret hx hb hr hlocks hH hS (⟨rfl, rfl⟩) (by omega) (by omega) dL_asks_148
  · obtain ⟨hc9, rfl, hu9⟩ := hw9
    exact absurd hc9 hcd
set_option maxHeartbeats 8000000 in
set_option maxRecDepth 100000 in
theorem za_account (l : Launch) (hl9 : l.stackTraces = false) (D : va_G) (cy : Nat → ClassId) (base x : Nat) (r : Nat → Nat) (n : Nat) (B A : mB) (a1 a2 : Int32) (hcd : ¬ (cd_account B a1 a2) = 0) : vx_Met l yL_asks wsL_asks ({ frames := 8, cells := 6, slots := 70, locals := 135 }) (zPc D cy base (lH D cy base x r n) [.ref x, .int 7, .int a1, .int a2] (B, A)) (zQi base (lH D cy base x r n) (fun (r0 : Int32) (u0 : lU) => r0 = (-30) ∧ u0 = (B, A))) (zXC base (lH D cy base x r n) (fun (_ : String) (_ : lU) => False)) 6 70 (fun q => base ≤ q) := by
  refine vx_ofWH (cc := cL_asks) (maxL := 5) (ret := (some .int)) (hh := [(0, 143, 144, 44)]) (by decide) rfl ?_
  intro p e s m args below meth c s₁ B9 hml hv
  obtain ⟨rfl, hA, hH⟩ := hv
  have hx := B9.exec
  have hb := B9.bytes
  have hr := B9.returns
  have hts := atoms_spec (ws := wsL_asks) B9.pre
  have hown : s.vm.findClass RL = some m.cls := findClass_of_methodNamed B9.named
  have hlocks := B9.notSynchronized
  have htb : c.exceptionTable.toList = [⟨0, 143, 144, 44⟩] := vx_table (x := yL_asks) B9 (hts (.codeWith yL_asks cL_asks 5 (some .int) [(0, 143, 144, 44)]) (by decide +kernel))
  have hS : va_S (fun q : Nat => base ≤ q) s.heap s.heap [] := va_S.rf
  have hl := lv_entry ([.ref x, .int 7, .int a1, .int a2]) (n := 5) (Nat.le_of_ble_eq_true rfl)
  rw [lg_entry_eq]
  generalize (lg_sl ([.ref x, .int 7, .int a1, .int a2]) ++ List.replicate (5 - (lg_sl ([.ref x, .int 7, .int a1, .int a2])).length) Slot.unset).toArray = ls at hl ⊢
  have hl : lv_has ls 5 [(0, .ref x), (1, .int 7), (2, .int a1), (3, .int a2)] := hl
  refine lv_iload_n hx hb dL_asks_0 rfl (lv_at hl 1 rfl) ?_
  refine lv_if_ne (tgt := 12) hx hb dL_asks_1 (by decide) (fun _ => ?_) (fun c_1 => absurd c_1 (by decide))
  refine lv_iload_n hx hb dL_asks_12 rfl (lv_at hl 1 rfl) ?_
  refine lv_iconst (v := 1) hx hb dL_asks_13 (by decide) ?_
  refine lv_icmp_ne (tgt := 33) hx hb dL_asks_14 (by decide) (fun _ => ?_) (fun c_2 => absurd c_2 (by decide))
  refine lv_iload_n hx hb dL_asks_33 rfl (lv_at hl 1 rfl) ?_
  refine lv_iconst (v := 2) hx hb dL_asks_34 (by decide) ?_
  refine lv_icmp_ne (tgt := 46) hx hb dL_asks_35 (by decide) (fun _ => ?_) (fun c_3 => absurd c_3 (by decide))
  refine lv_iload_n hx hb dL_asks_46 rfl (lv_at hl 1 rfl) ?_
  refine lv_iconst (v := 3) hx hb dL_asks_47 (by decide) ?_
  refine lv_icmp_ne (tgt := 69) hx hb dL_asks_48 (by decide) (fun _ => ?_) (fun c_4 => absurd c_4 (by decide))
  refine lv_iload_n hx hb dL_asks_69 rfl (lv_at hl 1 rfl) ?_
  refine lv_iconst (v := 4) hx hb dL_asks_70 (by decide) ?_
  refine lv_icmp_ne (tgt := 82) hx hb dL_asks_71 (by decide) (fun _ => ?_) (fun c_5 => absurd c_5 (by decide))
  refine lv_iload_n hx hb dL_asks_82 rfl (lv_at hl 1 rfl) ?_
  refine lv_iconst (v := 5) hx hb dL_asks_83 (by decide) ?_
  refine lv_icmp_ne (tgt := 95) hx hb dL_asks_84 (by decide) (fun _ => ?_) (fun c_6 => absurd c_6 (by decide))
  refine lv_iload_n hx hb dL_asks_95 rfl (lv_at hl 1 rfl) ?_
  refine lv_bipush (v := 6) hx hb dL_asks_96 (by decide) ?_
  refine lv_icmp_ne (tgt := 109) hx hb dL_asks_98 (by decide) (fun _ => ?_) (fun c_7 => absurd c_7 (by decide))
  refine lv_iload_n hx hb dL_asks_109 rfl (lv_at hl 1 rfl) ?_
  refine lv_bipush (v := 7) hx hb dL_asks_110 (by decide) ?_
  refine lv_icmp_ne (tgt := 124) hx hb dL_asks_112 (by decide) (fun c_8 => absurd c_8 (by decide)) (fun _ => ?_)
  refine lv_aload_n hx hb dL_asks_115 rfl (lv_at hl 0 rfl) ?_
  refine lv_iload_n hx hb dL_asks_116 rfl (lv_at hl 2 rfl) ?_
  refine lv_iload_n hx hb dL_asks_117 rfl (lv_at hl 3 rfl) ?_
  refine z_xcalli (vx_runV (As := [.int a1, .int a2]) (rest := []) ⟨hx, hb, hml, hown, hts⟩ (l_conv (n := n) (r := r) (A := A) (cd := (cd_account B a1 a2)) (an := (an_account B a1 a2)) (B' := B) (fun w ad hR hJ => c5_account l hl9 D cy base w x ad B a1 a2 hR hJ.1 hJ.2.1) (fun h _ => h)) (cwV 2 hts gL_asks_X5_account rfl rfl rfl (by decide +kernel) ⟨Nat.le_of_ble_eq_true rfl, Nat.le_of_ble_eq_true rfl⟩) (z_preV hA hS hH (l_recv hA hH)) rfl rfl hl.1 rfl (lv_room (Nat.le_of_ble_eq_true rfl)) dL_asks_118 ⟨(by show _ ≤ (6 : Nat); omega), (by show _ ≤ (70 : Nat); omega)⟩) hS (fun E9 ce9 q9 u9 H locs hw9 hH hz9 hS hce9 hv9 hcl9 => ?_) (fun r9 u9 H locs hw9 hH hz9 hS => ?_)
  · obtain ⟨hthr, hu9⟩ := hw9
    rw [hu9] at hH
    obtain ⟨hc9, rfl⟩ := hthr
    refine vx_catch (name := zIob) hown [] ⟨0, 143, 144, 44⟩ [] htb (fun z9 h9 => nomatch h9) rfl (by decide) (hts (.classLink RL 44 zIob) (by decide +kernel)) (castable_self hcl9) hce9 hv9 hcl9 ?_
    refine W.eq (g2 := F0 m 144 ls [.ref q9]) rfl ?_
    refine lv_astore (lv' := [(4, .ref q9), (0, .ref x), (1, .int 7), (2, .int a1), (3, .int a2)]) hx hb dL_asks_144 hl (by decide) rfl (fun ls hl => ?_)
    refine lv_bipush (v := (-30)) hx hb dL_asks_146 (by decide) ?_
    refine vx_ret ?_
    exact z_iret hx hb hr hlocks hH hS (⟨rfl, rfl⟩) (by omega) (by omega) dL_asks_148
  · obtain ⟨hc9, rfl, hu9⟩ := hw9
    exact absurd hc9 hcd
set_option maxHeartbeats 8000000 in
set_option maxRecDepth 100000 in
theorem za_limit (l : Launch) (hl9 : l.stackTraces = false) (D : va_G) (cy : Nat → ClassId) (base x : Nat) (r : Nat → Nat) (n : Nat) (B A : mB) (a1 a2 : Int32) (hcd : ¬ (cd_P B a1) = 0) : vx_Met l yL_asks wsL_asks ({ frames := 8, cells := 6, slots := 70, locals := 133 }) (zPc D cy base (lH D cy base x r n) [.ref x, .int 8, .int a1, .int a2] (B, A)) (zQi base (lH D cy base x r n) (fun (r0 : Int32) (u0 : lU) => r0 = (-30) ∧ u0 = (B, A))) (zXC base (lH D cy base x r n) (fun (_ : String) (_ : lU) => False)) 6 70 (fun q => base ≤ q) := by
  refine vx_ofWH (cc := cL_asks) (maxL := 5) (ret := (some .int)) (hh := [(0, 143, 144, 44)]) (by decide) rfl ?_
  intro p e s m args below meth c s₁ B9 hml hv
  obtain ⟨rfl, hA, hH⟩ := hv
  have hx := B9.exec
  have hb := B9.bytes
  have hr := B9.returns
  have hts := atoms_spec (ws := wsL_asks) B9.pre
  have hown : s.vm.findClass RL = some m.cls := findClass_of_methodNamed B9.named
  have hlocks := B9.notSynchronized
  have htb : c.exceptionTable.toList = [⟨0, 143, 144, 44⟩] := vx_table (x := yL_asks) B9 (hts (.codeWith yL_asks cL_asks 5 (some .int) [(0, 143, 144, 44)]) (by decide +kernel))
  have hS : va_S (fun q : Nat => base ≤ q) s.heap s.heap [] := va_S.rf
  have hl := lv_entry ([.ref x, .int 8, .int a1, .int a2]) (n := 5) (Nat.le_of_ble_eq_true rfl)
  rw [lg_entry_eq]
  generalize (lg_sl ([.ref x, .int 8, .int a1, .int a2]) ++ List.replicate (5 - (lg_sl ([.ref x, .int 8, .int a1, .int a2])).length) Slot.unset).toArray = ls at hl ⊢
  have hl : lv_has ls 5 [(0, .ref x), (1, .int 8), (2, .int a1), (3, .int a2)] := hl
  refine lv_iload_n hx hb dL_asks_0 rfl (lv_at hl 1 rfl) ?_
  refine lv_if_ne (tgt := 12) hx hb dL_asks_1 (by decide) (fun _ => ?_) (fun c_1 => absurd c_1 (by decide))
  refine lv_iload_n hx hb dL_asks_12 rfl (lv_at hl 1 rfl) ?_
  refine lv_iconst (v := 1) hx hb dL_asks_13 (by decide) ?_
  refine lv_icmp_ne (tgt := 33) hx hb dL_asks_14 (by decide) (fun _ => ?_) (fun c_2 => absurd c_2 (by decide))
  refine lv_iload_n hx hb dL_asks_33 rfl (lv_at hl 1 rfl) ?_
  refine lv_iconst (v := 2) hx hb dL_asks_34 (by decide) ?_
  refine lv_icmp_ne (tgt := 46) hx hb dL_asks_35 (by decide) (fun _ => ?_) (fun c_3 => absurd c_3 (by decide))
  refine lv_iload_n hx hb dL_asks_46 rfl (lv_at hl 1 rfl) ?_
  refine lv_iconst (v := 3) hx hb dL_asks_47 (by decide) ?_
  refine lv_icmp_ne (tgt := 69) hx hb dL_asks_48 (by decide) (fun _ => ?_) (fun c_4 => absurd c_4 (by decide))
  refine lv_iload_n hx hb dL_asks_69 rfl (lv_at hl 1 rfl) ?_
  refine lv_iconst (v := 4) hx hb dL_asks_70 (by decide) ?_
  refine lv_icmp_ne (tgt := 82) hx hb dL_asks_71 (by decide) (fun _ => ?_) (fun c_5 => absurd c_5 (by decide))
  refine lv_iload_n hx hb dL_asks_82 rfl (lv_at hl 1 rfl) ?_
  refine lv_iconst (v := 5) hx hb dL_asks_83 (by decide) ?_
  refine lv_icmp_ne (tgt := 95) hx hb dL_asks_84 (by decide) (fun _ => ?_) (fun c_6 => absurd c_6 (by decide))
  refine lv_iload_n hx hb dL_asks_95 rfl (lv_at hl 1 rfl) ?_
  refine lv_bipush (v := 6) hx hb dL_asks_96 (by decide) ?_
  refine lv_icmp_ne (tgt := 109) hx hb dL_asks_98 (by decide) (fun _ => ?_) (fun c_7 => absurd c_7 (by decide))
  refine lv_iload_n hx hb dL_asks_109 rfl (lv_at hl 1 rfl) ?_
  refine lv_bipush (v := 7) hx hb dL_asks_110 (by decide) ?_
  refine lv_icmp_ne (tgt := 124) hx hb dL_asks_112 (by decide) (fun _ => ?_) (fun c_8 => absurd c_8 (by decide))
  refine lv_iload_n hx hb dL_asks_124 rfl (lv_at hl 1 rfl) ?_
  refine lv_bipush (v := 8) hx hb dL_asks_125 (by decide) ?_
  refine lv_icmp_ne (tgt := 138) hx hb dL_asks_127 (by decide) (fun c_9 => absurd c_9 (by decide)) (fun _ => ?_)
  refine lv_aload_n hx hb dL_asks_130 rfl (lv_at hl 0 rfl) ?_
  refine lv_iload_n hx hb dL_asks_131 rfl (lv_at hl 2 rfl) ?_
  refine z_xcalli (vx_runV (As := [.int a1]) (rest := []) ⟨hx, hb, hml, hown, hts⟩ (l_conv (n := n) (r := r) (A := A) (cd := (cd_P B a1)) (an := (an_limit B a1)) (B' := B) (fun w ad hR hJ => c5_limit l hl9 D cy base w x ad B a1 hR hJ.1 hJ.2.1) (fun h _ => h)) (cwV 1 hts gL_asks_X5_limit rfl rfl rfl (by decide +kernel) ⟨Nat.le_of_ble_eq_true rfl, Nat.le_of_ble_eq_true rfl⟩) (z_preV hA hS hH (l_recv hA hH)) rfl rfl hl.1 rfl (lv_room (Nat.le_of_ble_eq_true rfl)) dL_asks_132 ⟨(by show _ ≤ (6 : Nat); omega), (by show _ ≤ (70 : Nat); omega)⟩) hS (fun E9 ce9 q9 u9 H locs hw9 hH hz9 hS hce9 hv9 hcl9 => ?_) (fun r9 u9 H locs hw9 hH hz9 hS => ?_)
  · obtain ⟨hthr, hu9⟩ := hw9
    rw [hu9] at hH
    obtain ⟨hc9, rfl⟩ := hthr
    refine vx_catch (name := zIob) hown [] ⟨0, 143, 144, 44⟩ [] htb (fun z9 h9 => nomatch h9) rfl (by decide) (hts (.classLink RL 44 zIob) (by decide +kernel)) (castable_self hcl9) hce9 hv9 hcl9 ?_
    refine W.eq (g2 := F0 m 144 ls [.ref q9]) rfl ?_
    refine lv_astore (lv' := [(4, .ref q9), (0, .ref x), (1, .int 8), (2, .int a1), (3, .int a2)]) hx hb dL_asks_144 hl (by decide) rfl (fun ls hl => ?_)
    refine lv_bipush (v := (-30)) hx hb dL_asks_146 (by decide) ?_
    refine vx_ret ?_
    exact z_iret hx hb hr hlocks hH hS (⟨rfl, rfl⟩) (by omega) (by omega) dL_asks_148
  · obtain ⟨hc9, rfl, hu9⟩ := hw9
    exact absurd hc9 hcd
set_option maxHeartbeats 8000000 in
set_option maxRecDepth 100000 in
theorem za_paidOut (l : Launch) (hl9 : l.stackTraces = false) (D : va_G) (cy : Nat → ClassId) (base x : Nat) (r : Nat → Nat) (n : Nat) (B A : mB) (a1 a2 : Int32) (hcd : ¬ (cd_P B a1) = 0) : vx_Met l yL_asks wsL_asks ({ frames := 8, cells := 1, slots := 6, locals := 133 }) (zPc D cy base (lH D cy base x r n) [.ref x, .int 9, .int a1, .int a2] (B, A)) (zQi base (lH D cy base x r n) (fun (r0 : Int32) (u0 : lU) => r0 = (-30) ∧ u0 = (B, A))) (zXC base (lH D cy base x r n) (fun (_ : String) (_ : lU) => False)) 1 6 (fun q => base ≤ q) := by
  refine vx_ofWH (cc := cL_asks) (maxL := 5) (ret := (some .int)) (hh := [(0, 143, 144, 44)]) (by decide) rfl ?_
  intro p e s m args below meth c s₁ B9 hml hv
  obtain ⟨rfl, hA, hH⟩ := hv
  have hx := B9.exec
  have hb := B9.bytes
  have hr := B9.returns
  have hts := atoms_spec (ws := wsL_asks) B9.pre
  have hown : s.vm.findClass RL = some m.cls := findClass_of_methodNamed B9.named
  have hlocks := B9.notSynchronized
  have htb : c.exceptionTable.toList = [⟨0, 143, 144, 44⟩] := vx_table (x := yL_asks) B9 (hts (.codeWith yL_asks cL_asks 5 (some .int) [(0, 143, 144, 44)]) (by decide +kernel))
  have hS : va_S (fun q : Nat => base ≤ q) s.heap s.heap [] := va_S.rf
  have hl := lv_entry ([.ref x, .int 9, .int a1, .int a2]) (n := 5) (Nat.le_of_ble_eq_true rfl)
  rw [lg_entry_eq]
  generalize (lg_sl ([.ref x, .int 9, .int a1, .int a2]) ++ List.replicate (5 - (lg_sl ([.ref x, .int 9, .int a1, .int a2])).length) Slot.unset).toArray = ls at hl ⊢
  have hl : lv_has ls 5 [(0, .ref x), (1, .int 9), (2, .int a1), (3, .int a2)] := hl
  refine lv_iload_n hx hb dL_asks_0 rfl (lv_at hl 1 rfl) ?_
  refine lv_if_ne (tgt := 12) hx hb dL_asks_1 (by decide) (fun _ => ?_) (fun c_1 => absurd c_1 (by decide))
  refine lv_iload_n hx hb dL_asks_12 rfl (lv_at hl 1 rfl) ?_
  refine lv_iconst (v := 1) hx hb dL_asks_13 (by decide) ?_
  refine lv_icmp_ne (tgt := 33) hx hb dL_asks_14 (by decide) (fun _ => ?_) (fun c_2 => absurd c_2 (by decide))
  refine lv_iload_n hx hb dL_asks_33 rfl (lv_at hl 1 rfl) ?_
  refine lv_iconst (v := 2) hx hb dL_asks_34 (by decide) ?_
  refine lv_icmp_ne (tgt := 46) hx hb dL_asks_35 (by decide) (fun _ => ?_) (fun c_3 => absurd c_3 (by decide))
  refine lv_iload_n hx hb dL_asks_46 rfl (lv_at hl 1 rfl) ?_
  refine lv_iconst (v := 3) hx hb dL_asks_47 (by decide) ?_
  refine lv_icmp_ne (tgt := 69) hx hb dL_asks_48 (by decide) (fun _ => ?_) (fun c_4 => absurd c_4 (by decide))
  refine lv_iload_n hx hb dL_asks_69 rfl (lv_at hl 1 rfl) ?_
  refine lv_iconst (v := 4) hx hb dL_asks_70 (by decide) ?_
  refine lv_icmp_ne (tgt := 82) hx hb dL_asks_71 (by decide) (fun _ => ?_) (fun c_5 => absurd c_5 (by decide))
  refine lv_iload_n hx hb dL_asks_82 rfl (lv_at hl 1 rfl) ?_
  refine lv_iconst (v := 5) hx hb dL_asks_83 (by decide) ?_
  refine lv_icmp_ne (tgt := 95) hx hb dL_asks_84 (by decide) (fun _ => ?_) (fun c_6 => absurd c_6 (by decide))
  refine lv_iload_n hx hb dL_asks_95 rfl (lv_at hl 1 rfl) ?_
  refine lv_bipush (v := 6) hx hb dL_asks_96 (by decide) ?_
  refine lv_icmp_ne (tgt := 109) hx hb dL_asks_98 (by decide) (fun _ => ?_) (fun c_7 => absurd c_7 (by decide))
  refine lv_iload_n hx hb dL_asks_109 rfl (lv_at hl 1 rfl) ?_
  refine lv_bipush (v := 7) hx hb dL_asks_110 (by decide) ?_
  refine lv_icmp_ne (tgt := 124) hx hb dL_asks_112 (by decide) (fun _ => ?_) (fun c_8 => absurd c_8 (by decide))
  refine lv_iload_n hx hb dL_asks_124 rfl (lv_at hl 1 rfl) ?_
  refine lv_bipush (v := 8) hx hb dL_asks_125 (by decide) ?_
  refine lv_icmp_ne (tgt := 138) hx hb dL_asks_127 (by decide) (fun _ => ?_) (fun c_9 => absurd c_9 (by decide))
  refine lv_aload_n hx hb dL_asks_138 rfl (lv_at hl 0 rfl) ?_
  refine lv_iload_n hx hb dL_asks_139 rfl (lv_at hl 2 rfl) ?_
  refine z_xcalli (vx_runV (As := [.int a1]) (rest := []) ⟨hx, hb, hml, hown, hts⟩ (l_conv (n := n) (r := r) (A := A) (cd := (cd_P B a1)) (an := (an_of B 13 a1)) (B' := B) (fun w ad hR hJ => c5_paidOut l hl9 D cy base w x ad B a1 hR hJ.1 hJ.2.1) (fun h _ => h)) (cwV 1 hts gL_asks_X5_paidOut rfl rfl rfl (by decide +kernel) ⟨Nat.le_of_ble_eq_true rfl, Nat.le_of_ble_eq_true rfl⟩) (z_preV hA hS hH (l_recv hA hH)) rfl rfl hl.1 rfl (lv_room (Nat.le_of_ble_eq_true rfl)) dL_asks_140 ⟨(by show _ ≤ (1 : Nat); omega), (by show _ ≤ (6 : Nat); omega)⟩) hS (fun E9 ce9 q9 u9 H locs hw9 hH hz9 hS hce9 hv9 hcl9 => ?_) (fun r9 u9 H locs hw9 hH hz9 hS => ?_)
  · obtain ⟨hthr, hu9⟩ := hw9
    rw [hu9] at hH
    obtain ⟨hc9, rfl⟩ := hthr
    refine vx_catch (name := zIob) hown [] ⟨0, 143, 144, 44⟩ [] htb (fun z9 h9 => nomatch h9) rfl (by decide) (hts (.classLink RL 44 zIob) (by decide +kernel)) (castable_self hcl9) hce9 hv9 hcl9 ?_
    refine W.eq (g2 := F0 m 144 ls [.ref q9]) rfl ?_
    refine lv_astore (lv' := [(4, .ref q9), (0, .ref x), (1, .int 9), (2, .int a1), (3, .int a2)]) hx hb dL_asks_144 hl (by decide) rfl (fun ls hl => ?_)
    refine lv_bipush (v := (-30)) hx hb dL_asks_146 (by decide) ?_
    refine vx_ret ?_
    exact z_iret hx hb hr hlocks hH hS (⟨rfl, rfl⟩) (by omega) (by omega) dL_asks_148
  · obtain ⟨hc9, rfl, hu9⟩ := hw9
    exact absurd hc9 hcd
