set_option maxHeartbeats 4000000 in
set_option maxRecDepth 100000 in
theorem c6_lies (l : Launch) (D : va_G) (cy : Nat → ClassId) (base : Nat) (w0 : zW) (y : Nat) (r : Nat → Nat) (B : Nat → Nat → Int32) (v : Int32) (a : Int32) (b : Int32) : Met l yX6_lies wsX6_lies ({ frames := 0, cells := 0, slots := 0, locals := 0 }) (zPc D cy base (mH D cy base w0 y r) [.int v, .int a, .int b] B) (zQi base (mH D cy base w0 y r) (fun (r0 : Int32) (u0 : Nat → Nat → Int32) => (vLies v a b = true ∧ r0 = 1 ∧ u0 = B) ∨ (vLies v a b = false ∧ r0 = 0 ∧ u0 = B))) 0 0 (fun q => base ≤ q) := by
  refine Met.ofW (cc := cX6_lies) (maxL := 3) (ret := (some .boolean)) (by decide) rfl ?_
  intro p e s m args below meth c s₁ B9 hml hv
  obtain ⟨rfl, hA, hH⟩ := hv
  have hx := B9.exec
  have hb := B9.bytes
  have hr := B9.returns
  have hts := atoms_spec (ws := wsX6_lies) B9.pre
  have hown : s.vm.findClass RX6 = some m.cls := findClass_of_methodNamed B9.named
  have hlocks := B9.notSynchronized
  have hS : va_S (fun q : Nat => base ≤ q) s.heap s.heap [] := va_S.rf
  have hl := lv_entry ([.int v, .int a, .int b]) (n := 3) (Nat.le_of_ble_eq_true rfl)
  rw [lg_entry_eq]
  generalize (lg_sl ([.int v, .int a, .int b]) ++ List.replicate (3 - (lg_sl ([.int v, .int a, .int b])).length) Slot.unset).toArray = ls at hl ⊢
  have hl : lv_has ls 3 [(0, .int v), (1, .int a), (2, .int b)] := hl
  refine lv_iload_n hx hb dX6_lies_0 rfl (lv_at hl 0 rfl) ?_
  refine lv_iload_n hx hb dX6_lies_1 rfl (lv_at hl 1 rfl) ?_
  refine lv_icmp_lt (tgt := 14) hx hb dX6_lies_2 (by decide) (fun c_1 => ?_) (fun c_1 => ?_)
  · refine lv_iconst (v := 0) hx hb dX6_lies_14 (by decide) ?_
    exact z_zret hx hb hr hlocks hH hS rfl (by first | contradiction | (refine Or.inl (⟨?_, rfl, rfl⟩) <;> (simp_all [vLies]; done)) | (refine Or.inr (⟨?_, rfl, rfl⟩) <;> (simp_all [vLies]; done))) (by decide) (by decide) dX6_lies_15
  · refine lv_iload_n hx hb dX6_lies_5 rfl (lv_at hl 0 rfl) ?_
    refine lv_iload_n hx hb dX6_lies_6 rfl (lv_at hl 2 rfl) ?_
    refine lv_icmp_gt (tgt := 14) hx hb dX6_lies_7 (by decide) (fun c_2 => ?_) (fun c_2 => ?_)
    · refine lv_iconst (v := 0) hx hb dX6_lies_14 (by decide) ?_
      exact z_zret hx hb hr hlocks hH hS rfl (by first | contradiction | (refine Or.inl (⟨?_, rfl, rfl⟩) <;> (simp_all [vLies]; done)) | (refine Or.inr (⟨?_, rfl, rfl⟩) <;> (simp_all [vLies]; done))) (by decide) (by decide) dX6_lies_15
    · refine lv_iconst (v := 1) hx hb dX6_lies_10 (by decide) ?_
      refine lv_goto (tgt := 15) hx hb dX6_lies_11 (by decide) ?_
      exact z_zret hx hb hr hlocks hH hS rfl (by first | contradiction | (refine Or.inl (⟨?_, rfl, rfl⟩) <;> (simp_all [vLies]; done)) | (refine Or.inr (⟨?_, rfl, rfl⟩) <;> (simp_all [vLies]; done))) (by decide) (by decide) dX6_lies_15
set_option maxHeartbeats 4000000 in
set_option maxRecDepth 100000 in
theorem c6_fails0 (l : Launch) (D : va_G) (cy : Nat → ClassId) (base : Nat) (w0 : zW) (y : Nat) (r : Nat → Nat) (B : Nat → Nat → Int32)  : Met l yX6_fails wsX6_fails ({ frames := 0, cells := 0, slots := 0, locals := 0 }) (zPc D cy base (mH D cy base w0 y r) [.ref y, .int 0] B) (zQi base (mH D cy base w0 y r) (fun (r0 : Int32) (u0 : Nat → Nat → Int32) => r0 = 0 ∧ u0 = (z2 B 27 0 0))) 0 0 (fun q => base ≤ q) := by
  refine Met.ofW (cc := cX6_fails) (maxL := 2) (ret := (some .boolean)) (by decide) rfl ?_
  intro p e s m args below meth c s₁ B9 hml hv
  obtain ⟨rfl, hA, hH⟩ := hv
  have hx := B9.exec
  have hb := B9.bytes
  have hr := B9.returns
  have hts := atoms_spec (ws := wsX6_fails) B9.pre
  have hown : s.vm.findClass RX6 = some m.cls := findClass_of_methodNamed B9.named
  have hlocks := B9.notSynchronized
  have hi6 : ∀ w ∈ wsX60, w ∈ wsX6_fails := by decide +kernel
  have hS : va_S (fun q : Nat => base ≤ q) s.heap s.heap [] := va_S.rf
  have hl := lv_entry ([.ref y, .int 0]) (n := 2) (Nat.le_of_ble_eq_true rfl)
  rw [lg_entry_eq]
  generalize (lg_sl ([.ref y, .int 0]) ++ List.replicate (2 - (lg_sl ([.ref y, .int 0])).length) Slot.unset).toArray = ls at hl ⊢
  have hl : lv_has ls 2 [(0, .ref y), (1, .int 0)] := hl
  refine lv_aload_n hx hb dX6_fails_0 rfl (lv_at hl 0 rfl) ?_
  refine lv_iload_n hx hb dX6_fails_1 rfl (lv_at hl 1 rfl) ?_
  refine m_put (f := 27) (by unfold mNum; decide) hx hb hts hi6 hown hA hH hS (hts (.fieldLink RX6 83 "ParoleCardsModel" "thrown" "I") (by decide +kernel)) dX6_fails_2 (fun H locs hH hS => ?_)
  refine lv_iload_n hx hb dX6_fails_5 rfl (lv_at hl 1 rfl) ?_
  refine lv_if_le (tgt := 13) hx hb dX6_fails_6 (by decide) (fun _ => ?_) (fun c_1 => absurd c_1 (by decide))
  refine lv_iconst (v := 0) hx hb dX6_fails_13 (by decide) ?_
  exact z_zret hx hb hr hlocks hH hS rfl (by exact ⟨rfl, rfl⟩) (by decide) (by decide) dX6_fails_14
set_option maxHeartbeats 4000000 in
set_option maxRecDepth 100000 in
theorem c6_fails1 (l : Launch) (D : va_G) (cy : Nat → ClassId) (base : Nat) (w0 : zW) (y : Nat) (r : Nat → Nat) (B : Nat → Nat → Int32)  : Met l yX6_fails wsX6_fails ({ frames := 0, cells := 0, slots := 0, locals := 0 }) (zPc D cy base (mH D cy base w0 y r) [.ref y, .int 1] B) (zQi base (mH D cy base w0 y r) (fun (r0 : Int32) (u0 : Nat → Nat → Int32) => r0 = 1 ∧ u0 = (z2 B 27 0 1))) 0 0 (fun q => base ≤ q) := by
  refine Met.ofW (cc := cX6_fails) (maxL := 2) (ret := (some .boolean)) (by decide) rfl ?_
  intro p e s m args below meth c s₁ B9 hml hv
  obtain ⟨rfl, hA, hH⟩ := hv
  have hx := B9.exec
  have hb := B9.bytes
  have hr := B9.returns
  have hts := atoms_spec (ws := wsX6_fails) B9.pre
  have hown : s.vm.findClass RX6 = some m.cls := findClass_of_methodNamed B9.named
  have hlocks := B9.notSynchronized
  have hi6 : ∀ w ∈ wsX60, w ∈ wsX6_fails := by decide +kernel
  have hS : va_S (fun q : Nat => base ≤ q) s.heap s.heap [] := va_S.rf
  have hl := lv_entry ([.ref y, .int 1]) (n := 2) (Nat.le_of_ble_eq_true rfl)
  rw [lg_entry_eq]
  generalize (lg_sl ([.ref y, .int 1]) ++ List.replicate (2 - (lg_sl ([.ref y, .int 1])).length) Slot.unset).toArray = ls at hl ⊢
  have hl : lv_has ls 2 [(0, .ref y), (1, .int 1)] := hl
  refine lv_aload_n hx hb dX6_fails_0 rfl (lv_at hl 0 rfl) ?_
  refine lv_iload_n hx hb dX6_fails_1 rfl (lv_at hl 1 rfl) ?_
  refine m_put (f := 27) (by unfold mNum; decide) hx hb hts hi6 hown hA hH hS (hts (.fieldLink RX6 83 "ParoleCardsModel" "thrown" "I") (by decide +kernel)) dX6_fails_2 (fun H locs hH hS => ?_)
  refine lv_iload_n hx hb dX6_fails_5 rfl (lv_at hl 1 rfl) ?_
  refine lv_if_le (tgt := 13) hx hb dX6_fails_6 (by decide) (fun c_1 => absurd c_1 (by decide)) (fun _ => ?_)
  refine lv_iconst (v := 1) hx hb dX6_fails_9 (by decide) ?_
  refine lv_goto (tgt := 14) hx hb dX6_fails_10 (by decide) ?_
  exact z_zret hx hb hr hlocks hH hS rfl (by exact ⟨rfl, rfl⟩) (by decide) (by decide) dX6_fails_14
set_option maxHeartbeats 4000000 in
set_option maxRecDepth 100000 in
theorem c6_fails2 (l : Launch) (D : va_G) (cy : Nat → ClassId) (base : Nat) (w0 : zW) (y : Nat) (r : Nat → Nat) (B : Nat → Nat → Int32)  : Met l yX6_fails wsX6_fails ({ frames := 0, cells := 0, slots := 0, locals := 0 }) (zPc D cy base (mH D cy base w0 y r) [.ref y, .int 2] B) (zQi base (mH D cy base w0 y r) (fun (r0 : Int32) (u0 : Nat → Nat → Int32) => r0 = 1 ∧ u0 = (z2 B 27 0 2))) 0 0 (fun q => base ≤ q) := by
  refine Met.ofW (cc := cX6_fails) (maxL := 2) (ret := (some .boolean)) (by decide) rfl ?_
  intro p e s m args below meth c s₁ B9 hml hv
  obtain ⟨rfl, hA, hH⟩ := hv
  have hx := B9.exec
  have hb := B9.bytes
  have hr := B9.returns
  have hts := atoms_spec (ws := wsX6_fails) B9.pre
  have hown : s.vm.findClass RX6 = some m.cls := findClass_of_methodNamed B9.named
  have hlocks := B9.notSynchronized
  have hi6 : ∀ w ∈ wsX60, w ∈ wsX6_fails := by decide +kernel
  have hS : va_S (fun q : Nat => base ≤ q) s.heap s.heap [] := va_S.rf
  have hl := lv_entry ([.ref y, .int 2]) (n := 2) (Nat.le_of_ble_eq_true rfl)
  rw [lg_entry_eq]
  generalize (lg_sl ([.ref y, .int 2]) ++ List.replicate (2 - (lg_sl ([.ref y, .int 2])).length) Slot.unset).toArray = ls at hl ⊢
  have hl : lv_has ls 2 [(0, .ref y), (1, .int 2)] := hl
  refine lv_aload_n hx hb dX6_fails_0 rfl (lv_at hl 0 rfl) ?_
  refine lv_iload_n hx hb dX6_fails_1 rfl (lv_at hl 1 rfl) ?_
  refine m_put (f := 27) (by unfold mNum; decide) hx hb hts hi6 hown hA hH hS (hts (.fieldLink RX6 83 "ParoleCardsModel" "thrown" "I") (by decide +kernel)) dX6_fails_2 (fun H locs hH hS => ?_)
  refine lv_iload_n hx hb dX6_fails_5 rfl (lv_at hl 1 rfl) ?_
  refine lv_if_le (tgt := 13) hx hb dX6_fails_6 (by decide) (fun c_1 => absurd c_1 (by decide)) (fun _ => ?_)
  refine lv_iconst (v := 1) hx hb dX6_fails_9 (by decide) ?_
  refine lv_goto (tgt := 14) hx hb dX6_fails_10 (by decide) ?_
  exact z_zret hx hb hr hlocks hH hS rfl (by exact ⟨rfl, rfl⟩) (by decide) (by decide) dX6_fails_14
set_option maxHeartbeats 4000000 in
set_option maxRecDepth 100000 in
theorem c6_fails3 (l : Launch) (D : va_G) (cy : Nat → ClassId) (base : Nat) (w0 : zW) (y : Nat) (r : Nat → Nat) (B : Nat → Nat → Int32)  : Met l yX6_fails wsX6_fails ({ frames := 0, cells := 0, slots := 0, locals := 0 }) (zPc D cy base (mH D cy base w0 y r) [.ref y, .int 3] B) (zQi base (mH D cy base w0 y r) (fun (r0 : Int32) (u0 : Nat → Nat → Int32) => r0 = 1 ∧ u0 = (z2 B 27 0 3))) 0 0 (fun q => base ≤ q) := by
  refine Met.ofW (cc := cX6_fails) (maxL := 2) (ret := (some .boolean)) (by decide) rfl ?_
  intro p e s m args below meth c s₁ B9 hml hv
  obtain ⟨rfl, hA, hH⟩ := hv
  have hx := B9.exec
  have hb := B9.bytes
  have hr := B9.returns
  have hts := atoms_spec (ws := wsX6_fails) B9.pre
  have hown : s.vm.findClass RX6 = some m.cls := findClass_of_methodNamed B9.named
  have hlocks := B9.notSynchronized
  have hi6 : ∀ w ∈ wsX60, w ∈ wsX6_fails := by decide +kernel
  have hS : va_S (fun q : Nat => base ≤ q) s.heap s.heap [] := va_S.rf
  have hl := lv_entry ([.ref y, .int 3]) (n := 2) (Nat.le_of_ble_eq_true rfl)
  rw [lg_entry_eq]
  generalize (lg_sl ([.ref y, .int 3]) ++ List.replicate (2 - (lg_sl ([.ref y, .int 3])).length) Slot.unset).toArray = ls at hl ⊢
  have hl : lv_has ls 2 [(0, .ref y), (1, .int 3)] := hl
  refine lv_aload_n hx hb dX6_fails_0 rfl (lv_at hl 0 rfl) ?_
  refine lv_iload_n hx hb dX6_fails_1 rfl (lv_at hl 1 rfl) ?_
  refine m_put (f := 27) (by unfold mNum; decide) hx hb hts hi6 hown hA hH hS (hts (.fieldLink RX6 83 "ParoleCardsModel" "thrown" "I") (by decide +kernel)) dX6_fails_2 (fun H locs hH hS => ?_)
  refine lv_iload_n hx hb dX6_fails_5 rfl (lv_at hl 1 rfl) ?_
  refine lv_if_le (tgt := 13) hx hb dX6_fails_6 (by decide) (fun c_1 => absurd c_1 (by decide)) (fun _ => ?_)
  refine lv_iconst (v := 1) hx hb dX6_fails_9 (by decide) ?_
  refine lv_goto (tgt := 14) hx hb dX6_fails_10 (by decide) ?_
  exact z_zret hx hb hr hlocks hH hS rfl (by exact ⟨rfl, rfl⟩) (by decide) (by decide) dX6_fails_14
set_option maxHeartbeats 4000000 in
set_option maxRecDepth 100000 in
theorem c6_thrown (l : Launch) (D : va_G) (cy : Nat → ClassId) (base : Nat) (w0 : zW) (y : Nat) (r : Nat → Nat) (B : Nat → Nat → Int32)  : Met l yX6_thrown wsX6_thrown ({ frames := 0, cells := 0, slots := 0, locals := 0 }) (zPc D cy base (mH D cy base w0 y r) [.ref y] B) (zQi base (mH D cy base w0 y r) (fun (r0 : Int32) (u0 : Nat → Nat → Int32) => r0 = (B 27 0) ∧ u0 = B)) 0 0 (fun q => base ≤ q) := by
  refine Met.ofW (cc := cX6_thrown) (maxL := 1) (ret := (some .int)) (by decide) rfl ?_
  intro p e s m args below meth c s₁ B9 hml hv
  obtain ⟨rfl, hA, hH⟩ := hv
  have hx := B9.exec
  have hb := B9.bytes
  have hr := B9.returns
  have hts := atoms_spec (ws := wsX6_thrown) B9.pre
  have hown : s.vm.findClass RX6 = some m.cls := findClass_of_methodNamed B9.named
  have hlocks := B9.notSynchronized
  have hi6 : ∀ w ∈ wsX60, w ∈ wsX6_thrown := by decide +kernel
  have hS : va_S (fun q : Nat => base ≤ q) s.heap s.heap [] := va_S.rf
  have hl := lv_entry ([.ref y]) (n := 1) (Nat.le_of_ble_eq_true rfl)
  rw [lg_entry_eq]
  generalize (lg_sl ([.ref y]) ++ List.replicate (1 - (lg_sl ([.ref y])).length) Slot.unset).toArray = ls at hl ⊢
  have hl : lv_has ls 1 [(0, .ref y)] := hl
  refine lv_aload_n hx hb dX6_thrown_0 rfl (lv_at hl 0 rfl) ?_
  refine m_num (f := 27) (v := (B 27 0)) (by unfold mNum; decide) hx hb hts hi6 hown hA hH (hts (.fieldLink RX6 83 "ParoleCardsModel" "thrown" "I") (by decide +kernel)) rfl dX6_thrown_1 ?_
  exact z_iret hx hb hr hlocks hH hS (by exact ⟨rfl, rfl⟩) (by decide) (by decide) dX6_thrown_4
set_option maxHeartbeats 4000000 in
set_option maxRecDepth 100000 in
theorem c6_isPerson_t (l : Launch) (D : va_G) (cy : Nat → ClassId) (base : Nat) (w0 : zW) (y : Nat) (r : Nat → Nat) (B : Nat → Nat → Int32) (i : Nat) (h9 : vP B (nI i) = true) : Met l yX6_isPerson wsX6_isPerson ({ frames := 1, cells := 0, slots := 0, locals := 22 }) (zPc D cy base (mH D cy base w0 y r) [.ref y, .int (nI i)] B) (zQi base (mH D cy base w0 y r) (fun (r0 : Int32) (u0 : Nat → Nat → Int32) => r0 = 1 ∧ u0 = B)) 0 0 (fun q => base ≤ q) := by
  refine Met.ofW (cc := cX6_isPerson) (maxL := 2) (ret := (some .boolean)) (by decide) rfl ?_
  intro p e s m args below meth c s₁ B9 hml hv
  obtain ⟨rfl, hA, hH⟩ := hv
  have hx := B9.exec
  have hb := B9.bytes
  have hr := B9.returns
  have hts := atoms_spec (ws := wsX6_isPerson) B9.pre
  have hown : s.vm.findClass RX6 = some m.cls := findClass_of_methodNamed B9.named
  have hlocks := B9.notSynchronized
  have hi6 : ∀ w ∈ wsX60, w ∈ wsX6_isPerson := by decide +kernel
  have hS : va_S (fun q : Nat => base ≤ q) s.heap s.heap [] := va_S.rf
  have hl := lv_entry ([.ref y, .int (nI i)]) (n := 2) (Nat.le_of_ble_eq_true rfl)
  rw [lg_entry_eq]
  generalize (lg_sl ([.ref y, .int (nI i)]) ++ List.replicate (2 - (lg_sl ([.ref y, .int (nI i)])).length) Slot.unset).toArray = ls at hl ⊢
  have hl : lv_has ls 2 [(0, .ref y), (1, .int (nI i))] := hl
  refine lv_iload_n hx hb dX6_isPerson_0 rfl (lv_at hl 1 rfl) ?_
  refine lv_iconst (v := 0) hx hb dX6_isPerson_1 (by decide) ?_
  refine lv_aload_n hx hb dX6_isPerson_2 rfl (lv_at hl 0 rfl) ?_
  refine m_num (f := 1) (v := (B 1 0)) (by unfold mNum; decide) hx hb hts hi6 hown hA hH (hts (.fieldLink RX6 87 "ParoleCardsModel" "people" "I") (by decide +kernel)) rfl dX6_isPerson_3 ?_
  refine lv_iconst (v := 1) hx hb dX6_isPerson_6 (by decide) ?_
  refine lv_isub hx hb dX6_isPerson_7 ?_
  refine z_calli (va_runS (As := [.int (nI i), .int 0, .int ((B 1 0) - 1)]) (rest := []) ⟨hx, hb, hml, hown, hts⟩ (c6_lies l D cy base w0 y r B (nI i) 0 ((B 1 0) - 1) ) (va_cwS 3 hts gX6_isPerson_X6_lies rfl rfl rfl (by decide +kernel) ⟨Nat.le_of_ble_eq_true rfl, Nat.le_of_ble_eq_true rfl⟩) (z_preS hA hS hH) rfl rfl hl.1 rfl (lv_room (Nat.le_of_ble_eq_true rfl)) dX6_isPerson_8 ⟨Nat.le_of_ble_eq_true rfl, Nat.le_of_ble_eq_true rfl⟩) hS (fun r_k_1 u_k_1 H locs hw_k_1 hH hz_k_1 hS => ?_)
  rcases hw_k_1 with ⟨h_k_1_0, rfl, hu_k_1⟩ | ⟨h_k_1_0, rfl, hu_k_1⟩
  · rw [hu_k_1] at hH
    exact z_zret hx hb hr hlocks hH hS rfl (by exact ⟨rfl, rfl⟩) (by decide) (by decide) dX6_isPerson_11
  · rw [hu_k_1] at hH
    exact absurd (h9.symm.trans h_k_1_0) (by decide)
set_option maxHeartbeats 4000000 in
set_option maxRecDepth 100000 in
theorem c6_isPerson_f (l : Launch) (D : va_G) (cy : Nat → ClassId) (base : Nat) (w0 : zW) (y : Nat) (r : Nat → Nat) (B : Nat → Nat → Int32) (v : Int32) (h9 : vP B v = false) : Met l yX6_isPerson wsX6_isPerson ({ frames := 1, cells := 0, slots := 0, locals := 22 }) (zPc D cy base (mH D cy base w0 y r) [.ref y, .int v] B) (zQi base (mH D cy base w0 y r) (fun (r0 : Int32) (u0 : Nat → Nat → Int32) => r0 = 0 ∧ u0 = B)) 0 0 (fun q => base ≤ q) := by
  refine Met.ofW (cc := cX6_isPerson) (maxL := 2) (ret := (some .boolean)) (by decide) rfl ?_
  intro p e s m args below meth c s₁ B9 hml hv
  obtain ⟨rfl, hA, hH⟩ := hv
  have hx := B9.exec
  have hb := B9.bytes
  have hr := B9.returns
  have hts := atoms_spec (ws := wsX6_isPerson) B9.pre
  have hown : s.vm.findClass RX6 = some m.cls := findClass_of_methodNamed B9.named
  have hlocks := B9.notSynchronized
  have hi6 : ∀ w ∈ wsX60, w ∈ wsX6_isPerson := by decide +kernel
  have hS : va_S (fun q : Nat => base ≤ q) s.heap s.heap [] := va_S.rf
  have hl := lv_entry ([.ref y, .int v]) (n := 2) (Nat.le_of_ble_eq_true rfl)
  rw [lg_entry_eq]
  generalize (lg_sl ([.ref y, .int v]) ++ List.replicate (2 - (lg_sl ([.ref y, .int v])).length) Slot.unset).toArray = ls at hl ⊢
  have hl : lv_has ls 2 [(0, .ref y), (1, .int v)] := hl
  refine lv_iload_n hx hb dX6_isPerson_0 rfl (lv_at hl 1 rfl) ?_
  refine lv_iconst (v := 0) hx hb dX6_isPerson_1 (by decide) ?_
  refine lv_aload_n hx hb dX6_isPerson_2 rfl (lv_at hl 0 rfl) ?_
  refine m_num (f := 1) (v := (B 1 0)) (by unfold mNum; decide) hx hb hts hi6 hown hA hH (hts (.fieldLink RX6 87 "ParoleCardsModel" "people" "I") (by decide +kernel)) rfl dX6_isPerson_3 ?_
  refine lv_iconst (v := 1) hx hb dX6_isPerson_6 (by decide) ?_
  refine lv_isub hx hb dX6_isPerson_7 ?_
  refine z_calli (va_runS (As := [.int v, .int 0, .int ((B 1 0) - 1)]) (rest := []) ⟨hx, hb, hml, hown, hts⟩ (c6_lies l D cy base w0 y r B v 0 ((B 1 0) - 1) ) (va_cwS 3 hts gX6_isPerson_X6_lies rfl rfl rfl (by decide +kernel) ⟨Nat.le_of_ble_eq_true rfl, Nat.le_of_ble_eq_true rfl⟩) (z_preS hA hS hH) rfl rfl hl.1 rfl (lv_room (Nat.le_of_ble_eq_true rfl)) dX6_isPerson_8 ⟨Nat.le_of_ble_eq_true rfl, Nat.le_of_ble_eq_true rfl⟩) hS (fun r_k_1 u_k_1 H locs hw_k_1 hH hz_k_1 hS => ?_)
  rcases hw_k_1 with ⟨h_k_1_0, rfl, hu_k_1⟩ | ⟨h_k_1_0, rfl, hu_k_1⟩
  · rw [hu_k_1] at hH
    exact absurd (h9.symm.trans h_k_1_0) (by decide)
  · rw [hu_k_1] at hH
    exact z_zret hx hb hr hlocks hH hS rfl (by exact ⟨rfl, rfl⟩) (by decide) (by decide) dX6_isPerson_11
set_option maxHeartbeats 4000000 in
set_option maxRecDepth 100000 in
theorem c6_isOrder_t (l : Launch) (D : va_G) (cy : Nat → ClassId) (base : Nat) (w0 : zW) (y : Nat) (r : Nat → Nat) (B : Nat → Nat → Int32) (i : Nat) (h9 : vO B (nI i) = true) : Met l yX6_isOrder wsX6_isOrder ({ frames := 1, cells := 0, slots := 0, locals := 22 }) (zPc D cy base (mH D cy base w0 y r) [.ref y, .int (nI i)] B) (zQi base (mH D cy base w0 y r) (fun (r0 : Int32) (u0 : Nat → Nat → Int32) => r0 = 1 ∧ u0 = B)) 0 0 (fun q => base ≤ q) := by
  refine Met.ofW (cc := cX6_isOrder) (maxL := 2) (ret := (some .boolean)) (by decide) rfl ?_
  intro p e s m args below meth c s₁ B9 hml hv
  obtain ⟨rfl, hA, hH⟩ := hv
  have hx := B9.exec
  have hb := B9.bytes
  have hr := B9.returns
  have hts := atoms_spec (ws := wsX6_isOrder) B9.pre
  have hown : s.vm.findClass RX6 = some m.cls := findClass_of_methodNamed B9.named
  have hlocks := B9.notSynchronized
  have hi6 : ∀ w ∈ wsX60, w ∈ wsX6_isOrder := by decide +kernel
  have hS : va_S (fun q : Nat => base ≤ q) s.heap s.heap [] := va_S.rf
  have hl := lv_entry ([.ref y, .int (nI i)]) (n := 2) (Nat.le_of_ble_eq_true rfl)
  rw [lg_entry_eq]
  generalize (lg_sl ([.ref y, .int (nI i)]) ++ List.replicate (2 - (lg_sl ([.ref y, .int (nI i)])).length) Slot.unset).toArray = ls at hl ⊢
  have hl : lv_has ls 2 [(0, .ref y), (1, .int (nI i))] := hl
  refine lv_iload_n hx hb dX6_isOrder_0 rfl (lv_at hl 1 rfl) ?_
  refine lv_iconst (v := 0) hx hb dX6_isOrder_1 (by decide) ?_
  refine lv_aload_n hx hb dX6_isOrder_2 rfl (lv_at hl 0 rfl) ?_
  refine m_num (f := 22) (v := (B 22 0)) (by unfold mNum; decide) hx hb hts hi6 hown hA hH (hts (.fieldLink RX6 94 "ParoleCardsModel" "orders" "I") (by decide +kernel)) rfl dX6_isOrder_3 ?_
  refine lv_iconst (v := 1) hx hb dX6_isOrder_6 (by decide) ?_
  refine lv_isub hx hb dX6_isOrder_7 ?_
  refine z_calli (va_runS (As := [.int (nI i), .int 0, .int ((B 22 0) - 1)]) (rest := []) ⟨hx, hb, hml, hown, hts⟩ (c6_lies l D cy base w0 y r B (nI i) 0 ((B 22 0) - 1) ) (va_cwS 3 hts gX6_isOrder_X6_lies rfl rfl rfl (by decide +kernel) ⟨Nat.le_of_ble_eq_true rfl, Nat.le_of_ble_eq_true rfl⟩) (z_preS hA hS hH) rfl rfl hl.1 rfl (lv_room (Nat.le_of_ble_eq_true rfl)) dX6_isOrder_8 ⟨Nat.le_of_ble_eq_true rfl, Nat.le_of_ble_eq_true rfl⟩) hS (fun r_k_1 u_k_1 H locs hw_k_1 hH hz_k_1 hS => ?_)
  rcases hw_k_1 with ⟨h_k_1_0, rfl, hu_k_1⟩ | ⟨h_k_1_0, rfl, hu_k_1⟩
  · rw [hu_k_1] at hH
    exact z_zret hx hb hr hlocks hH hS rfl (by exact ⟨rfl, rfl⟩) (by decide) (by decide) dX6_isOrder_11
  · rw [hu_k_1] at hH
    exact absurd (h9.symm.trans h_k_1_0) (by decide)
set_option maxHeartbeats 4000000 in
set_option maxRecDepth 100000 in
theorem c6_isOrder_f (l : Launch) (D : va_G) (cy : Nat → ClassId) (base : Nat) (w0 : zW) (y : Nat) (r : Nat → Nat) (B : Nat → Nat → Int32) (v : Int32) (h9 : vO B v = false) : Met l yX6_isOrder wsX6_isOrder ({ frames := 1, cells := 0, slots := 0, locals := 22 }) (zPc D cy base (mH D cy base w0 y r) [.ref y, .int v] B) (zQi base (mH D cy base w0 y r) (fun (r0 : Int32) (u0 : Nat → Nat → Int32) => r0 = 0 ∧ u0 = B)) 0 0 (fun q => base ≤ q) := by
  refine Met.ofW (cc := cX6_isOrder) (maxL := 2) (ret := (some .boolean)) (by decide) rfl ?_
  intro p e s m args below meth c s₁ B9 hml hv
  obtain ⟨rfl, hA, hH⟩ := hv
  have hx := B9.exec
  have hb := B9.bytes
  have hr := B9.returns
  have hts := atoms_spec (ws := wsX6_isOrder) B9.pre
  have hown : s.vm.findClass RX6 = some m.cls := findClass_of_methodNamed B9.named
  have hlocks := B9.notSynchronized
  have hi6 : ∀ w ∈ wsX60, w ∈ wsX6_isOrder := by decide +kernel
  have hS : va_S (fun q : Nat => base ≤ q) s.heap s.heap [] := va_S.rf
  have hl := lv_entry ([.ref y, .int v]) (n := 2) (Nat.le_of_ble_eq_true rfl)
  rw [lg_entry_eq]
  generalize (lg_sl ([.ref y, .int v]) ++ List.replicate (2 - (lg_sl ([.ref y, .int v])).length) Slot.unset).toArray = ls at hl ⊢
  have hl : lv_has ls 2 [(0, .ref y), (1, .int v)] := hl
  refine lv_iload_n hx hb dX6_isOrder_0 rfl (lv_at hl 1 rfl) ?_
  refine lv_iconst (v := 0) hx hb dX6_isOrder_1 (by decide) ?_
  refine lv_aload_n hx hb dX6_isOrder_2 rfl (lv_at hl 0 rfl) ?_
  refine m_num (f := 22) (v := (B 22 0)) (by unfold mNum; decide) hx hb hts hi6 hown hA hH (hts (.fieldLink RX6 94 "ParoleCardsModel" "orders" "I") (by decide +kernel)) rfl dX6_isOrder_3 ?_
  refine lv_iconst (v := 1) hx hb dX6_isOrder_6 (by decide) ?_
  refine lv_isub hx hb dX6_isOrder_7 ?_
  refine z_calli (va_runS (As := [.int v, .int 0, .int ((B 22 0) - 1)]) (rest := []) ⟨hx, hb, hml, hown, hts⟩ (c6_lies l D cy base w0 y r B v 0 ((B 22 0) - 1) ) (va_cwS 3 hts gX6_isOrder_X6_lies rfl rfl rfl (by decide +kernel) ⟨Nat.le_of_ble_eq_true rfl, Nat.le_of_ble_eq_true rfl⟩) (z_preS hA hS hH) rfl rfl hl.1 rfl (lv_room (Nat.le_of_ble_eq_true rfl)) dX6_isOrder_8 ⟨Nat.le_of_ble_eq_true rfl, Nat.le_of_ble_eq_true rfl⟩) hS (fun r_k_1 u_k_1 H locs hw_k_1 hH hz_k_1 hS => ?_)
  rcases hw_k_1 with ⟨h_k_1_0, rfl, hu_k_1⟩ | ⟨h_k_1_0, rfl, hu_k_1⟩
  · rw [hu_k_1] at hH
    exact absurd (h9.symm.trans h_k_1_0) (by decide)
  · rw [hu_k_1] at hH
    exact z_zret hx hb hr hlocks hH hS rfl (by exact ⟨rfl, rfl⟩) (by decide) (by decide) dX6_isOrder_11
set_option maxHeartbeats 4000000 in
set_option maxRecDepth 100000 in
theorem c6_isKind (l : Launch) (D : va_G) (cy : Nat → ClassId) (base : Nat) (w0 : zW) (y : Nat) (r : Nat → Nat) (B : Nat → Nat → Int32) (v : Int32) : Met l yX6_isKind wsX6_isKind ({ frames := 1, cells := 0, slots := 0, locals := 22 }) (zPc D cy base (mH D cy base w0 y r) [.int v] B) (zQi base (mH D cy base w0 y r) (fun (r0 : Int32) (u0 : Nat → Nat → Int32) => (vLies v 0 2 = true ∧ r0 = 1 ∧ u0 = B) ∨ (vLies v 0 2 = false ∧ r0 = 0 ∧ u0 = B))) 0 0 (fun q => base ≤ q) := by
  refine Met.ofW (cc := cX6_isKind) (maxL := 1) (ret := (some .boolean)) (by decide) rfl ?_
  intro p e s m args below meth c s₁ B9 hml hv
  obtain ⟨rfl, hA, hH⟩ := hv
  have hx := B9.exec
  have hb := B9.bytes
  have hr := B9.returns
  have hts := atoms_spec (ws := wsX6_isKind) B9.pre
  have hown : s.vm.findClass RX6 = some m.cls := findClass_of_methodNamed B9.named
  have hlocks := B9.notSynchronized
  have hS : va_S (fun q : Nat => base ≤ q) s.heap s.heap [] := va_S.rf
  have hl := lv_entry ([.int v]) (n := 1) (Nat.le_of_ble_eq_true rfl)
  rw [lg_entry_eq]
  generalize (lg_sl ([.int v]) ++ List.replicate (1 - (lg_sl ([.int v])).length) Slot.unset).toArray = ls at hl ⊢
  have hl : lv_has ls 1 [(0, .int v)] := hl
  refine lv_iload_n hx hb dX6_isKind_0 rfl (lv_at hl 0 rfl) ?_
  refine lv_iconst (v := 0) hx hb dX6_isKind_1 (by decide) ?_
  refine lv_iconst (v := 2) hx hb dX6_isKind_2 (by decide) ?_
  refine z_calli (va_runS (As := [.int v, .int 0, .int 2]) (rest := []) ⟨hx, hb, hml, hown, hts⟩ (c6_lies l D cy base w0 y r B v 0 2 ) (va_cwS 3 hts gX6_isKind_X6_lies rfl rfl rfl (by decide +kernel) ⟨Nat.le_of_ble_eq_true rfl, Nat.le_of_ble_eq_true rfl⟩) (z_preS hA hS hH) rfl rfl hl.1 rfl (lv_room (Nat.le_of_ble_eq_true rfl)) dX6_isKind_3 ⟨Nat.le_of_ble_eq_true rfl, Nat.le_of_ble_eq_true rfl⟩) hS (fun r_k_1 u_k_1 H locs hw_k_1 hH hz_k_1 hS => ?_)
  rcases hw_k_1 with ⟨h_k_1_0, rfl, hu_k_1⟩ | ⟨h_k_1_0, rfl, hu_k_1⟩
  · rw [hu_k_1] at hH
    exact z_zret hx hb hr hlocks hH hS rfl (by first | contradiction | (refine Or.inl (⟨?_, rfl, rfl⟩) <;> first | assumption | omega | (simp_all; done)) | (refine Or.inr (⟨?_, rfl, rfl⟩) <;> first | assumption | omega | (simp_all; done))) (by decide) (by decide) dX6_isKind_6
  · rw [hu_k_1] at hH
    exact z_zret hx hb hr hlocks hH hS rfl (by first | contradiction | (refine Or.inl (⟨?_, rfl, rfl⟩) <;> first | assumption | omega | (simp_all; done)) | (refine Or.inr (⟨?_, rfl, rfl⟩) <;> first | assumption | omega | (simp_all; done))) (by decide) (by decide) dX6_isKind_6
set_option maxHeartbeats 4000000 in
set_option maxRecDepth 100000 in
theorem c6_gains (l : Launch) (D : va_G) (cy : Nat → ClassId) (base : Nat) (w0 : zW) (y : Nat) (r : Nat → Nat) (B : Nat → Nat → Int32) (i : Nat) (hi : i < 10) : Met l yX6_gains wsX6_gains ({ frames := 0, cells := 0, slots := 0, locals := 0 }) (zPc D cy base (mH D cy base w0 y r) [.ref y, .int (nI i)] B) (zQi base (mH D cy base w0 y r) (fun (r0 : Int32) (u0 : Nat → Nat → Int32) => r0 = (sGain B i) ∧ u0 = B)) 0 0 (fun q => base ≤ q) := by
  refine Met.ofW (cc := cX6_gains) (maxL := 2) (ret := (some .int)) (by decide) rfl ?_
  intro p e s m args below meth c s₁ B9 hml hv
  obtain ⟨rfl, hA, hH⟩ := hv
  have hx := B9.exec
  have hb := B9.bytes
  have hr := B9.returns
  have hts := atoms_spec (ws := wsX6_gains) B9.pre
  have hown : s.vm.findClass RX6 = some m.cls := findClass_of_methodNamed B9.named
  have hlocks := B9.notSynchronized
  have hi6 : ∀ w ∈ wsX60, w ∈ wsX6_gains := by decide +kernel
  have hS : va_S (fun q : Nat => base ≤ q) s.heap s.heap [] := va_S.rf
  have hl := lv_entry ([.ref y, .int (nI i)]) (n := 2) (Nat.le_of_ble_eq_true rfl)
  rw [lg_entry_eq]
  generalize (lg_sl ([.ref y, .int (nI i)]) ++ List.replicate (2 - (lg_sl ([.ref y, .int (nI i)])).length) Slot.unset).toArray = ls at hl ⊢
  have hl : lv_has ls 2 [(0, .ref y), (1, .int (nI i))] := hl
  refine lv_aload_n hx hb dX6_gains_0 rfl (lv_at hl 0 rfl) ?_
  refine m_arr (f := 7) (by unfold mArr; decide) hx hb hts hi6 hown hA hH (hts (.fieldLink RX6 26 "ParoleCardsModel" "worked" "[I") (by decide +kernel)) rfl dX6_gains_1 ?_
  refine lv_iload_n hx hb dX6_gains_4 rfl (lv_at hl 1 rfl) ?_
  refine m_iald (f := 7) (v := (B 7 i)) (by unfold mArr; decide) rfl hx hb hA hH i rfl (by rw [show mLen 7 = 10 from rfl]; omega) rfl dX6_gains_5 ?_
  refine lv_iconst (v := 5) hx hb dX6_gains_6 (by decide) ?_
  refine lv_idiv hx hb dX6_gains_7 (by decide) ?_
  refine lv_aload_n hx hb dX6_gains_8 rfl (lv_at hl 0 rfl) ?_
  refine m_arr (f := 8) (by unfold mArr; decide) hx hb hts hi6 hown hA hH (hts (.fieldLink RX6 29 "ParoleCardsModel" "gained" "[I") (by decide +kernel)) rfl dX6_gains_9 ?_
  refine lv_iload_n hx hb dX6_gains_12 rfl (lv_at hl 1 rfl) ?_
  refine m_iald (f := 8) (v := (B 8 i)) (by unfold mArr; decide) rfl hx hb hA hH i rfl (by rw [show mLen 8 = 10 from rfl]; omega) rfl dX6_gains_13 ?_
  refine lv_iadd hx hb dX6_gains_14 ?_
  exact z_iret hx hb hr hlocks hH hS (by exact ⟨rfl, rfl⟩) (by decide) (by decide) dX6_gains_15
set_option maxHeartbeats 4000000 in
set_option maxRecDepth 100000 in
theorem c6_loses (l : Launch) (D : va_G) (cy : Nat → ClassId) (base : Nat) (w0 : zW) (y : Nat) (r : Nat → Nat) (B : Nat → Nat → Int32) (i : Nat) (hi : i < 10) (h10 : B 10 i = nI (oc B i)) (h50 : oc B i ≤ 50) : Met l yX6_loses wsX6_loses ({ frames := 0, cells := 0, slots := 0, locals := 0 }) (zPc D cy base (mH D cy base w0 y r) [.ref y, .int (nI i)] B) (zQi base (mH D cy base w0 y r) (fun (r0 : Int32) (u0 : Nat → Nat → Int32) => r0 = (sLoss B i) ∧ u0 = B)) 0 0 (fun q => base ≤ q) := by
  refine Met.ofW (cc := cX6_loses) (maxL := 4) (ret := (some .int)) (by decide) rfl ?_
  intro p e s m args below meth c s₁ B9 hml hv
  obtain ⟨rfl, hA, hH⟩ := hv
  have hx := B9.exec
  have hb := B9.bytes
  have hr := B9.returns
  have hts := atoms_spec (ws := wsX6_loses) B9.pre
  have hown : s.vm.findClass RX6 = some m.cls := findClass_of_methodNamed B9.named
  have hlocks := B9.notSynchronized
  have hi6 : ∀ w ∈ wsX60, w ∈ wsX6_loses := by decide +kernel
  have hS : va_S (fun q : Nat => base ≤ q) s.heap s.heap [] := va_S.rf
  have hl := lv_entry ([.ref y, .int (nI i)]) (n := 4) (Nat.le_of_ble_eq_true rfl)
  rw [lg_entry_eq]
  generalize (lg_sl ([.ref y, .int (nI i)]) ++ List.replicate (4 - (lg_sl ([.ref y, .int (nI i)])).length) Slot.unset).toArray = ls at hl ⊢
  have hl : lv_has ls 4 [(0, .ref y), (1, .int (nI i))] := hl
  refine lv_iconst (v := 0) hx hb dX6_loses_0 (by decide) ?_
  refine lv_istore_n (lv' := [(2, .int 0), (0, .ref y), (1, .int (nI i))]) hx hb dX6_loses_1 rfl hl (by decide) rfl (fun ls hl => ?_)
  refine lv_bipush (v := 50) hx hb dX6_loses_2 (by decide) ?_
  refine lv_iload_n hx hb dX6_loses_4 rfl (lv_at hl 2 rfl) ?_
  refine lv_imul hx hb dX6_loses_5 ?_
  refine lv_istore_n (lv' := [(3, .int (50 * (nI i))), (2, .int 0), (0, .ref y), (1, .int (nI i))]) hx hb dX6_loses_6 rfl hl (by decide) rfl (fun ls hl => ?_)
  have hl_1 : lv_has ls 4 [(0, .ref y), (1, .int (nI i)), (2, .int 0), (3, .int (50 * (nI i)))] := lv_sub hl [2, 3, 1, 0] rfl
  rw [show ((50 * (nI i)) : Int32) = (nI (50 * i + 0)) from (by rw [show (50 : Int32) = nI 50 from rfl, pk_mul]; rfl)] at hl_1
  have hl_1 : lv_has ls 4 [(0, .ref y), (1, .int (nI i)), (2, .int (sLo B (50 * i) 0)), (3, .int (nI (50 * i + 0)))] := hl_1
  refine z_for (nL := 4) (oc B i) (fun k u => u = B) (fun k _ => [(0, .ref y), (1, .int (nI i)), (2, .int (sLo B (50 * i) k)), (3, .int (nI (50 * i + k)))]) 0 (Nat.zero_le _) rfl hH hS hl_1 ?_ ?_
  · intro u H locs ls hu hH hS hl
    rw [hu] at hH
    refine lv_iload_n hx hb dX6_loses_7 rfl (lv_at hl 3 rfl) ?_
    refine lv_bipush (v := 50) hx hb dX6_loses_8 (by decide) ?_
    refine lv_iload_n hx hb dX6_loses_10 rfl (lv_at hl 1 rfl) ?_
    refine lv_imul hx hb dX6_loses_11 ?_
    refine lv_aload_n hx hb dX6_loses_12 rfl (lv_at hl 0 rfl) ?_
    refine m_arr (f := 10) (by unfold mArr; decide) hx hb hts hi6 hown hA hH (hts (.fieldLink RX6 35 "ParoleCardsModel" "offences" "[I") (by decide +kernel)) rfl dX6_loses_13 ?_
    refine lv_iload_n hx hb dX6_loses_16 rfl (lv_at hl 1 rfl) ?_
    refine m_iald (f := 10) (v := (B 10 i)) (by unfold mArr; decide) rfl hx hb hA hH i rfl (by rw [show mLen 10 = 10 from rfl]; omega) rfl dX6_loses_17 ?_
    refine lv_iadd hx hb dX6_loses_18 ?_
    refine lv_icmp_ge (tgt := 50) hx hb dX6_loses_19 (by decide) (fun c_2 => ?_) (fun c_2 => absurd (by rw [(show (50 * nI i) + (B 10 i) = nI (50 * i + oc B i) by rw [h10, show (50 : Int32) = nI 50 from rfl, pk_mul, nI_add])]; exact nI_le (Nat.le_refl _) (by omega)) c_2)
    refine lv_iload_n hx hb dX6_loses_50 rfl (lv_at hl 2 rfl) ?_
    exact z_iret hx hb hr hlocks hH hS (by exact ⟨rfl, rfl⟩) (by decide) (by decide) dX6_loses_51
  · intro k hk ih u H locs ls hu hH hS hl
    rw [hu] at hH
    refine lv_iload_n hx hb dX6_loses_7 rfl (lv_at hl 3 rfl) ?_
    refine lv_bipush (v := 50) hx hb dX6_loses_8 (by decide) ?_
    refine lv_iload_n hx hb dX6_loses_10 rfl (lv_at hl 1 rfl) ?_
    refine lv_imul hx hb dX6_loses_11 ?_
    refine lv_aload_n hx hb dX6_loses_12 rfl (lv_at hl 0 rfl) ?_
    refine m_arr (f := 10) (by unfold mArr; decide) hx hb hts hi6 hown hA hH (hts (.fieldLink RX6 35 "ParoleCardsModel" "offences" "[I") (by decide +kernel)) rfl dX6_loses_13 ?_
    refine lv_iload_n hx hb dX6_loses_16 rfl (lv_at hl 1 rfl) ?_
    refine m_iald (f := 10) (v := (B 10 i)) (by unfold mArr; decide) rfl hx hb hA hH i rfl (by rw [show mLen 10 = 10 from rfl]; omega) rfl dX6_loses_17 ?_
    refine lv_iadd hx hb dX6_loses_18 ?_
    refine lv_icmp_ge (tgt := 50) hx hb dX6_loses_19 (by decide) (fun c_3 => absurd c_3 (by rw [(show (50 * nI i) + (B 10 i) = nI (50 * i + oc B i) by rw [h10, show (50 : Int32) = nI 50 from rfl, pk_mul, nI_add])]; exact nI_ge (by omega) (by omega))) (fun c_3 => ?_)
    refine lv_iload_n hx hb dX6_loses_22 rfl (lv_at hl 2 rfl) ?_
    refine lv_aload_n hx hb dX6_loses_23 rfl (lv_at hl 0 rfl) ?_
    refine m_arr (f := 20) (by unfold mArr; decide) hx hb hts hi6 hown hA hH (hts (.fieldLink RX6 65 "ParoleCardsModel" "isAppealed" "[Z") (by decide +kernel)) rfl dX6_loses_24 ?_
    refine lv_iload_n hx hb dX6_loses_27 rfl (lv_at hl 3 rfl) ?_
    refine m_zald (f := 20) (v := (B 20 (50 * i + k))) (by unfold mArr; decide) rfl hx hb hA hH (50 * i + k) rfl (by rw [show mLen 20 = 500 from rfl]; omega) rfl dX6_loses_28 ?_
    refine lv_if_eq (tgt := 36) hx hb dX6_loses_29 (by decide) (fun c_4 => ?_) (fun c_4 => ?_)
    · refine lv_aload_n hx hb dX6_loses_36 rfl (lv_at hl 0 rfl) ?_
      refine m_arr (f := 17) (by unfold mArr; decide) hx hb hts hi6 hown hA hH (hts (.fieldLink RX6 56 "ParoleCardsModel" "lost" "[I") (by decide +kernel)) rfl dX6_loses_37 ?_
      refine lv_iload_n hx hb dX6_loses_40 rfl (lv_at hl 3 rfl) ?_
      refine m_iald (f := 17) (v := (B 17 (50 * i + k))) (by unfold mArr; decide) rfl hx hb hA hH (50 * i + k) rfl (by rw [show mLen 17 = 500 from rfl]; omega) rfl dX6_loses_41 ?_
      refine lv_iadd hx hb dX6_loses_42 ?_
      refine lv_istore_n (lv' := [(2, .int ((sLo B (50 * i) k) + (B 17 (50 * i + k)))), (0, .ref y), (1, .int (nI i)), (3, .int (nI (50 * i + k)))]) hx hb dX6_loses_43 rfl hl (by decide) rfl (fun ls hl => ?_)
      refine lv_iinc (v := ((nI (50 * i + k)) + 1)) (lv' := [(3, .int ((nI (50 * i + k)) + 1)), (2, .int ((sLo B (50 * i) k) + (B 17 (50 * i + k)))), (0, .ref y), (1, .int (nI i))]) hx hb dX6_loses_44 hl (k := 3) rfl rfl (by decide) rfl (fun ls hl => ?_)
      refine lv_goto (tgt := 7) hx hb dX6_loses_47 (by decide) ?_
      have hl_5 : lv_has ls 4 [(0, .ref y), (1, .int (nI i)), (2, .int ((sLo B (50 * i) k) + (B 17 (50 * i + k)))), (3, .int ((nI (50 * i + k)) + 1))] := lv_sub hl [2, 3, 1, 0] rfl
      rw [show (((sLo B (50 * i) k) + (B 17 (50 * i + k))) : Int32) = (sLo B (50 * i) (k + 1)) from (by simp [sLo, c_3, c_4])] at hl_5
      rw [show (((nI (50 * i + k)) + 1) : Int32) = (nI (50 * i + (k + 1))) from (nI_1 _)] at hl_5
      have hl_5 : lv_has ls 4 [(0, .ref y), (1, .int (nI i)), (2, .int (sLo B (50 * i) (k + 1))), (3, .int (nI (50 * i + (k + 1))))] := hl_5
      exact ih _ _ _ _ rfl hH hS hl_5
    · refine lv_iconst (v := 0) hx hb dX6_loses_32 (by decide) ?_
      refine lv_goto (tgt := 42) hx hb dX6_loses_33 (by decide) ?_
      refine lv_iadd hx hb dX6_loses_42 ?_
      refine lv_istore_n (lv' := [(2, .int ((sLo B (50 * i) k) + 0)), (0, .ref y), (1, .int (nI i)), (3, .int (nI (50 * i + k)))]) hx hb dX6_loses_43 rfl hl (by decide) rfl (fun ls hl => ?_)
      refine lv_iinc (v := ((nI (50 * i + k)) + 1)) (lv' := [(3, .int ((nI (50 * i + k)) + 1)), (2, .int ((sLo B (50 * i) k) + 0)), (0, .ref y), (1, .int (nI i))]) hx hb dX6_loses_44 hl (k := 3) rfl rfl (by decide) rfl (fun ls hl => ?_)
      refine lv_goto (tgt := 7) hx hb dX6_loses_47 (by decide) ?_
      have hl_6 : lv_has ls 4 [(0, .ref y), (1, .int (nI i)), (2, .int ((sLo B (50 * i) k) + 0)), (3, .int ((nI (50 * i + k)) + 1))] := lv_sub hl [2, 3, 1, 0] rfl
      rw [show (((sLo B (50 * i) k) + 0) : Int32) = (sLo B (50 * i) (k + 1)) from (by simp [sLo, c_3, c_4])] at hl_6
      rw [show (((nI (50 * i + k)) + 1) : Int32) = (nI (50 * i + (k + 1))) from (nI_1 _)] at hl_6
      have hl_6 : lv_has ls 4 [(0, .ref y), (1, .int (nI i)), (2, .int (sLo B (50 * i) (k + 1))), (3, .int (nI (50 * i + (k + 1))))] := hl_6
      exact ih _ _ _ _ rfl hH hS hl_6
set_option maxHeartbeats 4000000 in
set_option maxRecDepth 100000 in
theorem c6_releaseOf (l : Launch) (D : va_G) (cy : Nat → ClassId) (base : Nat) (w0 : zW) (y : Nat) (r : Nat → Nat) (B : Nat → Nat → Int32) (i : Nat) (hi : i < 10) (h10 : B 10 i = nI (oc B i)) (h50 : oc B i ≤ 50) : Met l yX6_releaseOf wsX6_releaseOf ({ frames := 1, cells := 0, slots := 0, locals := 23 }) (zPc D cy base (mH D cy base w0 y r) [.ref y, .int (nI i)] B) (zQi base (mH D cy base w0 y r) (fun (r0 : Int32) (u0 : Nat → Nat → Int32) => r0 = (sRel B i) ∧ u0 = B)) 0 0 (fun q => base ≤ q) := by
  refine Met.ofW (cc := cX6_releaseOf) (maxL := 4) (ret := (some .int)) (by decide) rfl ?_
  intro p e s m args below meth c s₁ B9 hml hv
  obtain ⟨rfl, hA, hH⟩ := hv
  have hx := B9.exec
  have hb := B9.bytes
  have hr := B9.returns
  have hts := atoms_spec (ws := wsX6_releaseOf) B9.pre
  have hown : s.vm.findClass RX6 = some m.cls := findClass_of_methodNamed B9.named
  have hlocks := B9.notSynchronized
  have hi6 : ∀ w ∈ wsX60, w ∈ wsX6_releaseOf := by decide +kernel
  have hS : va_S (fun q : Nat => base ≤ q) s.heap s.heap [] := va_S.rf
  have hl := lv_entry ([.ref y, .int (nI i)]) (n := 4) (Nat.le_of_ble_eq_true rfl)
  rw [lg_entry_eq]
  generalize (lg_sl ([.ref y, .int (nI i)]) ++ List.replicate (4 - (lg_sl ([.ref y, .int (nI i)])).length) Slot.unset).toArray = ls at hl ⊢
  have hl : lv_has ls 4 [(0, .ref y), (1, .int (nI i))] := hl
  refine lv_aload_n hx hb dX6_releaseOf_0 rfl (lv_at hl 0 rfl) ?_
  refine m_arr (f := 4) (by unfold mArr; decide) hx hb hts hi6 hown hA hH (hts (.fieldLink RX6 17 "ParoleCardsModel" "term" "[I") (by decide +kernel)) rfl dX6_releaseOf_1 ?_
  refine lv_iload_n hx hb dX6_releaseOf_4 rfl (lv_at hl 1 rfl) ?_
  refine m_iald (f := 4) (v := (B 4 i)) (by unfold mArr; decide) rfl hx hb hA hH i rfl (by rw [show mLen 4 = 10 from rfl]; omega) rfl dX6_releaseOf_5 ?_
  refine lv_iconst (v := 4) hx hb dX6_releaseOf_6 (by decide) ?_
  refine lv_idiv hx hb dX6_releaseOf_7 (by decide) ?_
  refine lv_istore_n (lv' := [(2, .int ((B 4 i) / 4)), (0, .ref y), (1, .int (nI i))]) hx hb dX6_releaseOf_8 rfl hl (by decide) rfl (fun ls hl => ?_)
  refine lv_aload_n hx hb dX6_releaseOf_9 rfl (lv_at hl 1 rfl) ?_
  refine lv_iload_n hx hb dX6_releaseOf_10 rfl (lv_at hl 2 rfl) ?_
  refine z_calli (va_runV (As := [.int (nI i)]) (rest := []) ⟨hx, hb, hml, hown, hts⟩ (c6_gains l D cy base w0 y r B i (by omega)) (cwV 1 hts gX6_releaseOf_X6_gains rfl rfl rfl (by decide +kernel) ⟨Nat.le_of_ble_eq_true rfl, Nat.le_of_ble_eq_true rfl⟩) (z_preV hA hS hH (m_recv hA hH)) rfl rfl hl.1 rfl (lv_room (Nat.le_of_ble_eq_true rfl)) dX6_releaseOf_11 ⟨Nat.le_of_ble_eq_true rfl, Nat.le_of_ble_eq_true rfl⟩) hS (fun r_k_1 u_k_1 H locs hw_k_1 hH hz_k_1 hS => ?_)
  rcases hw_k_1 with ⟨rfl, hu_k_1⟩
  rw [hu_k_1] at hH
  refine lv_iload_n hx hb dX6_releaseOf_14 rfl (lv_at hl 0 rfl) ?_
  refine lv_icmp_ge (tgt := 26) hx hb dX6_releaseOf_15 (by decide) (fun c_2 => ?_) (fun c_2 => ?_)
  · refine lv_iload_n hx hb dX6_releaseOf_26 rfl (lv_at hl 0 rfl) ?_
    refine lv_istore_n (lv' := [(3, .int ((B 4 i) / 4)), (2, .int ((B 4 i) / 4)), (0, .ref y), (1, .int (nI i))]) hx hb dX6_releaseOf_27 rfl hl (by decide) rfl (fun ls hl => ?_)
    refine lv_aload_n hx hb dX6_releaseOf_28 rfl (lv_at hl 2 rfl) ?_
    refine m_arr (f := 2) (by unfold mArr; decide) hx hb hts hi6 hown hA hH (hts (.fieldLink RX6 7 "ParoleCardsModel" "isOut" "[Z") (by decide +kernel)) rfl dX6_releaseOf_29 ?_
    refine lv_iload_n hx hb dX6_releaseOf_32 rfl (lv_at hl 3 rfl) ?_
    refine m_zald (f := 2) (v := (B 2 i)) (by unfold mArr; decide) rfl hx hb hA hH i rfl (by rw [show mLen 2 = 10 from rfl]; omega) rfl dX6_releaseOf_33 ?_
    refine lv_if_eq (tgt := 46) hx hb dX6_releaseOf_34 (by decide) (fun c_3 => ?_) (fun c_3 => ?_)
    · refine lv_aload_n hx hb dX6_releaseOf_46 rfl (lv_at hl 2 rfl) ?_
      refine m_arr (f := 3) (by unfold mArr; decide) hx hb hts hi6 hown hA hH (hts (.fieldLink RX6 13 "ParoleCardsModel" "since" "[I") (by decide +kernel)) rfl dX6_releaseOf_47 ?_
      refine lv_iload_n hx hb dX6_releaseOf_50 rfl (lv_at hl 3 rfl) ?_
      refine m_iald (f := 3) (v := (B 3 i)) (by unfold mArr; decide) rfl hx hb hA hH i rfl (by rw [show mLen 3 = 10 from rfl]; omega) rfl dX6_releaseOf_51 ?_
      refine lv_aload_n hx hb dX6_releaseOf_52 rfl (lv_at hl 2 rfl) ?_
      refine m_arr (f := 4) (by unfold mArr; decide) hx hb hts hi6 hown hA hH (hts (.fieldLink RX6 17 "ParoleCardsModel" "term" "[I") (by decide +kernel)) rfl dX6_releaseOf_53 ?_
      refine lv_iload_n hx hb dX6_releaseOf_56 rfl (lv_at hl 3 rfl) ?_
      refine m_iald (f := 4) (v := (B 4 i)) (by unfold mArr; decide) rfl hx hb hA hH i rfl (by rw [show mLen 4 = 10 from rfl]; omega) rfl dX6_releaseOf_57 ?_
      refine lv_iadd hx hb dX6_releaseOf_58 ?_
      refine lv_iload_n hx hb dX6_releaseOf_59 rfl (lv_at hl 0 rfl) ?_
      refine lv_isub hx hb dX6_releaseOf_60 ?_
      refine lv_aload_n hx hb dX6_releaseOf_61 rfl (lv_at hl 2 rfl) ?_
      refine lv_iload_n hx hb dX6_releaseOf_62 rfl (lv_at hl 3 rfl) ?_
      refine z_calli (va_runV (As := [.int (nI i)]) (rest := [.int (((B 3 i) + (B 4 i)) - ((B 4 i) / 4))]) ⟨hx, hb, hml, hown, hts⟩ (c6_loses l D cy base w0 y r B i (by omega) h10 h50) (cwV 1 hts gX6_releaseOf_X6_loses rfl rfl rfl (by decide +kernel) ⟨Nat.le_of_ble_eq_true rfl, Nat.le_of_ble_eq_true rfl⟩) (z_preV hA hS hH (m_recv hA hH)) rfl rfl hl.1 rfl (lv_room (Nat.le_of_ble_eq_true rfl)) dX6_releaseOf_63 ⟨Nat.le_of_ble_eq_true rfl, Nat.le_of_ble_eq_true rfl⟩) hS (fun r_k_4 u_k_4 H locs hw_k_4 hH hz_k_4 hS => ?_)
      rcases hw_k_4 with ⟨rfl, hu_k_4⟩
      rw [hu_k_4] at hH
      refine lv_iadd hx hb dX6_releaseOf_66 ?_
      exact z_iret hx hb hr hlocks hH hS ⟨by simp [sRel, c_2, Int32.not_lt.mpr c_2, c_3], rfl⟩ (by decide) (by decide) dX6_releaseOf_67
    · refine lv_aload_n hx hb dX6_releaseOf_37 rfl (lv_at hl 2 rfl) ?_
      refine m_arr (f := 12) (by unfold mArr; decide) hx hb hts hi6 hown hA hH (hts (.fieldLink RX6 41 "ParoleCardsModel" "released" "[I") (by decide +kernel)) rfl dX6_releaseOf_38 ?_
      refine lv_iload_n hx hb dX6_releaseOf_41 rfl (lv_at hl 3 rfl) ?_
      refine m_iald (f := 12) (v := (B 12 i)) (by unfold mArr; decide) rfl hx hb hA hH i rfl (by rw [show mLen 12 = 10 from rfl]; omega) rfl dX6_releaseOf_42 ?_
      refine lv_goto (tgt := 67) hx hb dX6_releaseOf_43 (by decide) ?_
      exact z_iret hx hb hr hlocks hH hS ⟨by simp [sRel, c_2, Int32.not_lt.mpr c_2, c_3], rfl⟩ (by decide) (by decide) dX6_releaseOf_67
  · refine lv_aload_n hx hb dX6_releaseOf_18 rfl (lv_at hl 1 rfl) ?_
    refine lv_iload_n hx hb dX6_releaseOf_19 rfl (lv_at hl 2 rfl) ?_
    refine z_calli (va_runV (As := [.int (nI i)]) (rest := []) ⟨hx, hb, hml, hown, hts⟩ (c6_gains l D cy base w0 y r B i (by omega)) (cwV 1 hts gX6_releaseOf_X6_gains rfl rfl rfl (by decide +kernel) ⟨Nat.le_of_ble_eq_true rfl, Nat.le_of_ble_eq_true rfl⟩) (z_preV hA hS hH (m_recv hA hH)) rfl rfl hl.1 rfl (lv_room (Nat.le_of_ble_eq_true rfl)) dX6_releaseOf_20 ⟨Nat.le_of_ble_eq_true rfl, Nat.le_of_ble_eq_true rfl⟩) hS (fun r_k_5 u_k_5 H locs hw_k_5 hH hz_k_5 hS => ?_)
    rcases hw_k_5 with ⟨rfl, hu_k_5⟩
    rw [hu_k_5] at hH
    refine lv_goto (tgt := 27) hx hb dX6_releaseOf_23 (by decide) ?_
    refine lv_istore_n (lv' := [(3, .int (sGain B i)), (2, .int ((B 4 i) / 4)), (0, .ref y), (1, .int (nI i))]) hx hb dX6_releaseOf_27 rfl hl (by decide) rfl (fun ls hl => ?_)
    refine lv_aload_n hx hb dX6_releaseOf_28 rfl (lv_at hl 2 rfl) ?_
    refine m_arr (f := 2) (by unfold mArr; decide) hx hb hts hi6 hown hA hH (hts (.fieldLink RX6 7 "ParoleCardsModel" "isOut" "[Z") (by decide +kernel)) rfl dX6_releaseOf_29 ?_
    refine lv_iload_n hx hb dX6_releaseOf_32 rfl (lv_at hl 3 rfl) ?_
    refine m_zald (f := 2) (v := (B 2 i)) (by unfold mArr; decide) rfl hx hb hA hH i rfl (by rw [show mLen 2 = 10 from rfl]; omega) rfl dX6_releaseOf_33 ?_
    refine lv_if_eq (tgt := 46) hx hb dX6_releaseOf_34 (by decide) (fun c_6 => ?_) (fun c_6 => ?_)
    · refine lv_aload_n hx hb dX6_releaseOf_46 rfl (lv_at hl 2 rfl) ?_
      refine m_arr (f := 3) (by unfold mArr; decide) hx hb hts hi6 hown hA hH (hts (.fieldLink RX6 13 "ParoleCardsModel" "since" "[I") (by decide +kernel)) rfl dX6_releaseOf_47 ?_
      refine lv_iload_n hx hb dX6_releaseOf_50 rfl (lv_at hl 3 rfl) ?_
      refine m_iald (f := 3) (v := (B 3 i)) (by unfold mArr; decide) rfl hx hb hA hH i rfl (by rw [show mLen 3 = 10 from rfl]; omega) rfl dX6_releaseOf_51 ?_
      refine lv_aload_n hx hb dX6_releaseOf_52 rfl (lv_at hl 2 rfl) ?_
      refine m_arr (f := 4) (by unfold mArr; decide) hx hb hts hi6 hown hA hH (hts (.fieldLink RX6 17 "ParoleCardsModel" "term" "[I") (by decide +kernel)) rfl dX6_releaseOf_53 ?_
      refine lv_iload_n hx hb dX6_releaseOf_56 rfl (lv_at hl 3 rfl) ?_
      refine m_iald (f := 4) (v := (B 4 i)) (by unfold mArr; decide) rfl hx hb hA hH i rfl (by rw [show mLen 4 = 10 from rfl]; omega) rfl dX6_releaseOf_57 ?_
      refine lv_iadd hx hb dX6_releaseOf_58 ?_
      refine lv_iload_n hx hb dX6_releaseOf_59 rfl (lv_at hl 0 rfl) ?_
      refine lv_isub hx hb dX6_releaseOf_60 ?_
      refine lv_aload_n hx hb dX6_releaseOf_61 rfl (lv_at hl 2 rfl) ?_
      refine lv_iload_n hx hb dX6_releaseOf_62 rfl (lv_at hl 3 rfl) ?_
      refine z_calli (va_runV (As := [.int (nI i)]) (rest := [.int (((B 3 i) + (B 4 i)) - (sGain B i))]) ⟨hx, hb, hml, hown, hts⟩ (c6_loses l D cy base w0 y r B i (by omega) h10 h50) (cwV 1 hts gX6_releaseOf_X6_loses rfl rfl rfl (by decide +kernel) ⟨Nat.le_of_ble_eq_true rfl, Nat.le_of_ble_eq_true rfl⟩) (z_preV hA hS hH (m_recv hA hH)) rfl rfl hl.1 rfl (lv_room (Nat.le_of_ble_eq_true rfl)) dX6_releaseOf_63 ⟨Nat.le_of_ble_eq_true rfl, Nat.le_of_ble_eq_true rfl⟩) hS (fun r_k_7 u_k_7 H locs hw_k_7 hH hz_k_7 hS => ?_)
      rcases hw_k_7 with ⟨rfl, hu_k_7⟩
      rw [hu_k_7] at hH
      refine lv_iadd hx hb dX6_releaseOf_66 ?_
      exact z_iret hx hb hr hlocks hH hS ⟨by simp [sRel, c_2, Int32.not_le.mp c_2, c_6], rfl⟩ (by decide) (by decide) dX6_releaseOf_67
    · refine lv_aload_n hx hb dX6_releaseOf_37 rfl (lv_at hl 2 rfl) ?_
      refine m_arr (f := 12) (by unfold mArr; decide) hx hb hts hi6 hown hA hH (hts (.fieldLink RX6 41 "ParoleCardsModel" "released" "[I") (by decide +kernel)) rfl dX6_releaseOf_38 ?_
      refine lv_iload_n hx hb dX6_releaseOf_41 rfl (lv_at hl 3 rfl) ?_
      refine m_iald (f := 12) (v := (B 12 i)) (by unfold mArr; decide) rfl hx hb hA hH i rfl (by rw [show mLen 12 = 10 from rfl]; omega) rfl dX6_releaseOf_42 ?_
      refine lv_goto (tgt := 67) hx hb dX6_releaseOf_43 (by decide) ?_
      exact z_iret hx hb hr hlocks hH hS ⟨by simp [sRel, c_2, Int32.not_le.mp c_2, c_6], rfl⟩ (by decide) (by decide) dX6_releaseOf_67
set_option maxHeartbeats 4000000 in
set_option maxRecDepth 100000 in
theorem c6_raises (l : Launch) (D : va_G) (cy : Nat → ClassId) (base : Nat) (w0 : zW) (y : Nat) (r : Nat → Nat) (B : Nat → Nat → Int32) (i : Nat) (hi : i < 10) : Met l yX6_raises wsX6_raises ({ frames := 0, cells := 0, slots := 0, locals := 0 }) (zPc D cy base (mH D cy base w0 y r) [.ref y, .int (nI i)] B) (zQv base (mH D cy base w0 y r) (fun (u0 : Nat → Nat → Int32) => u0 = (sRaise B i))) 0 0 (fun q => base ≤ q) := by
  refine Met.ofW (cc := cX6_raises) (maxL := 2) (ret := none) (by decide) rfl ?_
  intro p e s m args below meth c s₁ B9 hml hv
  obtain ⟨rfl, hA, hH⟩ := hv
  have hx := B9.exec
  have hb := B9.bytes
  have hr := B9.returns
  have hts := atoms_spec (ws := wsX6_raises) B9.pre
  have hown : s.vm.findClass RX6 = some m.cls := findClass_of_methodNamed B9.named
  have hlocks := B9.notSynchronized
  have hi6 : ∀ w ∈ wsX60, w ∈ wsX6_raises := by decide +kernel
  have hS : va_S (fun q : Nat => base ≤ q) s.heap s.heap [] := va_S.rf
  have hl := lv_entry ([.ref y, .int (nI i)]) (n := 2) (Nat.le_of_ble_eq_true rfl)
  rw [lg_entry_eq]
  generalize (lg_sl ([.ref y, .int (nI i)]) ++ List.replicate (2 - (lg_sl ([.ref y, .int (nI i)])).length) Slot.unset).toArray = ls at hl ⊢
  have hl : lv_has ls 2 [(0, .ref y), (1, .int (nI i))] := hl
  refine lv_aload_n hx hb dX6_raises_0 rfl (lv_at hl 0 rfl) ?_
  refine m_arr (f := 6) (by unfold mArr; decide) hx hb hts hi6 hown hA hH (hts (.fieldLink RX6 23 "ParoleCardsModel" "regime" "[I") (by decide +kernel)) rfl dX6_raises_1 ?_
  refine lv_iload_n hx hb dX6_raises_4 rfl (lv_at hl 1 rfl) ?_
  refine lv_dup2_11 hx hb dX6_raises_5 rfl rfl ?_
  refine m_iald (f := 6) (v := (B 6 i)) (by unfold mArr; decide) rfl hx hb hA hH i rfl (by rw [show mLen 6 = 10 from rfl]; omega) rfl dX6_raises_6 ?_
  refine lv_aload_n hx hb dX6_raises_7 rfl (lv_at hl 0 rfl) ?_
  refine m_arr (f := 6) (by unfold mArr; decide) hx hb hts hi6 hown hA hH (hts (.fieldLink RX6 23 "ParoleCardsModel" "regime" "[I") (by decide +kernel)) rfl dX6_raises_8 ?_
  refine lv_iload_n hx hb dX6_raises_11 rfl (lv_at hl 1 rfl) ?_
  refine m_iald (f := 6) (v := (B 6 i)) (by unfold mArr; decide) rfl hx hb hA hH i rfl (by rw [show mLen 6 = 10 from rfl]; omega) rfl dX6_raises_12 ?_
  refine lv_iconst (v := 2) hx hb dX6_raises_13 (by decide) ?_
  refine lv_icmp_ge (tgt := 21) hx hb dX6_raises_14 (by decide) (fun c_1 => ?_) (fun c_1 => ?_)
  · refine lv_iconst (v := 0) hx hb dX6_raises_21 (by decide) ?_
    refine lv_iadd hx hb dX6_raises_22 ?_
    refine m_iast (f := 6) (by unfold mArr; decide) rfl hx hb hA hH hS i rfl (by rw [show mLen 6 = 10 from rfl]; omega) dX6_raises_23 (fun H locs hH hS => ?_)
    exact z_vret hx hb hr hlocks hH hS (by simp [sRaise, c_1, Int32.not_lt.mpr c_1]) (by decide) (by decide) dX6_raises_24
  · refine lv_iconst (v := 1) hx hb dX6_raises_17 (by decide) ?_
    refine lv_goto (tgt := 22) hx hb dX6_raises_18 (by decide) ?_
    refine lv_iadd hx hb dX6_raises_22 ?_
    refine m_iast (f := 6) (by unfold mArr; decide) rfl hx hb hA hH hS i rfl (by rw [show mLen 6 = 10 from rfl]; omega) dX6_raises_23 (fun H locs hH hS => ?_)
    exact z_vret hx hb hr hlocks hH hS (by simp [sRaise, c_1, Int32.not_le.mp c_1]) (by decide) (by decide) dX6_raises_24
