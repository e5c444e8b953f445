set_option maxHeartbeats 4000000 in
set_option maxRecDepth 100000 in
theorem c6_lies (l : Launch) (D : va_G) (cy : Nat → ClassId) (base : Nat) (w0 : zW) (y : Nat) (r : Nat → Nat) (B : Nat → Nat → Int32) (v : Int32) (a : Int32) (b : Int32) : Met l yX6_lies wsX6_lies ({ frames := 0, cells := 0, slots := 0, locals := 0 }) (zPc D cy base (mH D cy base w0 y r) [.int v, .int a, .int b] B) (zQi base (mH D cy base w0 y r) (fun (r0 : Int32) (u0 : Nat → Nat → Int32) => (¬ v < a ∧ ¬ b < v ∧ r0 = 1 ∧ u0 = B) ∨ (v < a ∧ r0 = 0 ∧ u0 = B) ∨ (b < v ∧ r0 = 0 ∧ u0 = B))) 0 0 (fun q => base ≤ q) := by
  refine Met.ofW (cc := cX6_lies) (maxL := 3) (ret := (some .boolean)) (by decide) rfl ?_
  intro p e s m args below meth c s₁ B9 hml hv
  obtain ⟨rfl, hA, hH⟩ := hv
  have hx := B9.exec
  have hb := B9.bytes
  have hr := B9.returns
  have hts := atoms_spec (ws := wsX6_lies) B9.pre
  have hown : s.vm.findClass RX6 = some m.cls := findClass_of_methodNamed B9.named
  have hlocks := B9.notSynchronized
  have hS : va_S (fun q : Nat => base ≤ q) s.heap s.heap [] := va_S.rf
  have hl := lv_entry ([.int v, .int a, .int b]) (n := 3) (Nat.le_of_ble_eq_true rfl)
  rw [lg_entry_eq]
  generalize (lg_sl ([.int v, .int a, .int b]) ++ List.replicate (3 - (lg_sl ([.int v, .int a, .int b])).length) Slot.unset).toArray = ls at hl ⊢
  have hl : lv_has ls 3 [(0, .int v), (1, .int a), (2, .int b)] := hl
  refine lv_iload_n hx hb dX6_lies_0 rfl (lv_at hl 0 rfl) ?_
  refine lv_iload_n hx hb dX6_lies_1 rfl (lv_at hl 1 rfl) ?_
  refine lv_icmp_lt (tgt := 14) hx hb dX6_lies_2 (by decide) (fun c_1 => ?_) (fun c_1 => ?_)
  · refine lv_iconst (v := 0) hx hb dX6_lies_14 (by decide) ?_
    exact z_zret hx hb hr hlocks hH hS rfl (by first | (refine Or.inl (⟨?_, ?_, rfl, rfl⟩) <;> first | assumption | omega | (simp_all; done)) | (refine Or.inr (Or.inl (⟨?_, rfl, rfl⟩)) <;> first | assumption | omega | (simp_all; done)) | (refine Or.inr (Or.inr (⟨?_, rfl, rfl⟩)) <;> first | assumption | omega | (simp_all; done))) (by decide) (by decide) dX6_lies_15
  · refine lv_iload_n hx hb dX6_lies_5 rfl (lv_at hl 0 rfl) ?_
    refine lv_iload_n hx hb dX6_lies_6 rfl (lv_at hl 2 rfl) ?_
    refine lv_icmp_gt (tgt := 14) hx hb dX6_lies_7 (by decide) (fun c_2 => ?_) (fun c_2 => ?_)
    · refine lv_iconst (v := 0) hx hb dX6_lies_14 (by decide) ?_
      exact z_zret hx hb hr hlocks hH hS rfl (by first | (refine Or.inl (⟨?_, ?_, rfl, rfl⟩) <;> first | assumption | omega | (simp_all; done)) | (refine Or.inr (Or.inl (⟨?_, rfl, rfl⟩)) <;> first | assumption | omega | (simp_all; done)) | (refine Or.inr (Or.inr (⟨?_, rfl, rfl⟩)) <;> first | assumption | omega | (simp_all; done))) (by decide) (by decide) dX6_lies_15
    · refine lv_iconst (v := 1) hx hb dX6_lies_10 (by decide) ?_
      refine lv_goto (tgt := 15) hx hb dX6_lies_11 (by decide) ?_
      exact z_zret hx hb hr hlocks hH hS rfl (by first | (refine Or.inl (⟨?_, ?_, rfl, rfl⟩) <;> first | assumption | omega | (simp_all; done)) | (refine Or.inr (Or.inl (⟨?_, rfl, rfl⟩)) <;> first | assumption | omega | (simp_all; done)) | (refine Or.inr (Or.inr (⟨?_, rfl, rfl⟩)) <;> first | assumption | omega | (simp_all; done))) (by decide) (by decide) dX6_lies_15
set_option maxHeartbeats 4000000 in
set_option maxRecDepth 100000 in
theorem c6_fails0 (l : Launch) (D : va_G) (cy : Nat → ClassId) (base : Nat) (w0 : zW) (y : Nat) (r : Nat → Nat) (B : Nat → Nat → Int32)  : Met l yX6_fails wsX6_fails ({ frames := 0, cells := 0, slots := 0, locals := 0 }) (zPc D cy base (mH D cy base w0 y r) [.ref y, .int 0] B) (zQi base (mH D cy base w0 y r) (fun (r0 : Int32) (u0 : Nat → Nat → Int32) => r0 = 0 ∧ u0 = (z2 B 27 0 0))) 0 0 (fun q => base ≤ q) := by
  refine Met.ofW (cc := cX6_fails) (maxL := 2) (ret := (some .boolean)) (by decide) rfl ?_
  intro p e s m args below meth c s₁ B9 hml hv
  obtain ⟨rfl, hA, hH⟩ := hv
  have hx := B9.exec
  have hb := B9.bytes
  have hr := B9.returns
  have hts := atoms_spec (ws := wsX6_fails) B9.pre
  have hown : s.vm.findClass RX6 = some m.cls := findClass_of_methodNamed B9.named
  have hlocks := B9.notSynchronized
  have hi6 : ∀ w ∈ wsX60, w ∈ wsX6_fails := by decide +kernel
  have hS : va_S (fun q : Nat => base ≤ q) s.heap s.heap [] := va_S.rf
  have hl := lv_entry ([.ref y, .int 0]) (n := 2) (Nat.le_of_ble_eq_true rfl)
  rw [lg_entry_eq]
  generalize (lg_sl ([.ref y, .int 0]) ++ List.replicate (2 - (lg_sl ([.ref y, .int 0])).length) Slot.unset).toArray = ls at hl ⊢
  have hl : lv_has ls 2 [(0, .ref y), (1, .int 0)] := hl
  refine lv_aload_n hx hb dX6_fails_0 rfl (lv_at hl 0 rfl) ?_
  refine lv_iload_n hx hb dX6_fails_1 rfl (lv_at hl 1 rfl) ?_
  refine m_put (f := 27) (by unfold mNum; decide) hx hb hts hi6 hown hA hH hS (hts (.fieldLink RX6 83 "ParoleCardsModel" "thrown" "I") (by decide +kernel)) dX6_fails_2 (fun H locs hH hS => ?_)
  refine lv_iload_n hx hb dX6_fails_5 rfl (lv_at hl 1 rfl) ?_
  refine lv_if_le (tgt := 13) hx hb dX6_fails_6 (by decide) (fun _ => ?_) (fun c_1 => absurd (by decide) c_1)
  refine lv_iconst (v := 0) hx hb dX6_fails_13 (by decide) ?_
  exact z_zret hx hb hr hlocks hH hS rfl (by exact ⟨rfl, rfl⟩) (by decide) (by decide) dX6_fails_14
set_option maxHeartbeats 4000000 in
set_option maxRecDepth 100000 in
theorem c6_fails1 (l : Launch) (D : va_G) (cy : Nat → ClassId) (base : Nat) (w0 : zW) (y : Nat) (r : Nat → Nat) (B : Nat → Nat → Int32)  : Met l yX6_fails wsX6_fails ({ frames := 0, cells := 0, slots := 0, locals := 0 }) (zPc D cy base (mH D cy base w0 y r) [.ref y, .int 1] B) (zQi base (mH D cy base w0 y r) (fun (r0 : Int32) (u0 : Nat → Nat → Int32) => r0 = 1 ∧ u0 = (z2 B 27 0 1))) 0 0 (fun q => base ≤ q) := by
  refine Met.ofW (cc := cX6_fails) (maxL := 2) (ret := (some .boolean)) (by decide) rfl ?_
  intro p e s m args below meth c s₁ B9 hml hv
  obtain ⟨rfl, hA, hH⟩ := hv
  have hx := B9.exec
  have hb := B9.bytes
  have hr := B9.returns
  have hts := atoms_spec (ws := wsX6_fails) B9.pre
  have hown : s.vm.findClass RX6 = some m.cls := findClass_of_methodNamed B9.named
  have hlocks := B9.notSynchronized
  have hi6 : ∀ w ∈ wsX60, w ∈ wsX6_fails := by decide +kernel
  have hS : va_S (fun q : Nat => base ≤ q) s.heap s.heap [] := va_S.rf
  have hl := lv_entry ([.ref y, .int 1]) (n := 2) (Nat.le_of_ble_eq_true rfl)
  rw [lg_entry_eq]
  generalize (lg_sl ([.ref y, .int 1]) ++ List.replicate (2 - (lg_sl ([.ref y, .int 1])).length) Slot.unset).toArray = ls at hl ⊢
  have hl : lv_has ls 2 [(0, .ref y), (1, .int 1)] := hl
  refine lv_aload_n hx hb dX6_fails_0 rfl (lv_at hl 0 rfl) ?_
  refine lv_iload_n hx hb dX6_fails_1 rfl (lv_at hl 1 rfl) ?_
  refine m_put (f := 27) (by unfold mNum; decide) hx hb hts hi6 hown hA hH hS (hts (.fieldLink RX6 83 "ParoleCardsModel" "thrown" "I") (by decide +kernel)) dX6_fails_2 (fun H locs hH hS => ?_)
  refine lv_iload_n hx hb dX6_fails_5 rfl (lv_at hl 1 rfl) ?_
  refine lv_if_le (tgt := 13) hx hb dX6_fails_6 (by decide) (fun c_1 => absurd c_1 (by decide)) (fun _ => ?_)
  refine lv_iconst (v := 1) hx hb dX6_fails_9 (by decide) ?_
  refine lv_goto (tgt := 14) hx hb dX6_fails_10 (by decide) ?_
  exact z_zret hx hb hr hlocks hH hS rfl (by exact ⟨rfl, rfl⟩) (by decide) (by decide) dX6_fails_14
set_option maxHeartbeats 4000000 in
set_option maxRecDepth 100000 in
theorem c6_fails2 (l : Launch) (D : va_G) (cy : Nat → ClassId) (base : Nat) (w0 : zW) (y : Nat) (r : Nat → Nat) (B : Nat → Nat → Int32)  : Met l yX6_fails wsX6_fails ({ frames := 0, cells := 0, slots := 0, locals := 0 }) (zPc D cy base (mH D cy base w0 y r) [.ref y, .int 2] B) (zQi base (mH D cy base w0 y r) (fun (r0 : Int32) (u0 : Nat → Nat → Int32) => r0 = 1 ∧ u0 = (z2 B 27 0 2))) 0 0 (fun q => base ≤ q) := by
  refine Met.ofW (cc := cX6_fails) (maxL := 2) (ret := (some .boolean)) (by decide) rfl ?_
  intro p e s m args below meth c s₁ B9 hml hv
  obtain ⟨rfl, hA, hH⟩ := hv
  have hx := B9.exec
  have hb := B9.bytes
  have hr := B9.returns
  have hts := atoms_spec (ws := wsX6_fails) B9.pre
  have hown : s.vm.findClass RX6 = some m.cls := findClass_of_methodNamed B9.named
  have hlocks := B9.notSynchronized
  have hi6 : ∀ w ∈ wsX60, w ∈ wsX6_fails := by decide +kernel
  have hS : va_S (fun q : Nat => base ≤ q) s.heap s.heap [] := va_S.rf
  have hl := lv_entry ([.ref y, .int 2]) (n := 2) (Nat.le_of_ble_eq_true rfl)
  rw [lg_entry_eq]
  generalize (lg_sl ([.ref y, .int 2]) ++ List.replicate (2 - (lg_sl ([.ref y, .int 2])).length) Slot.unset).toArray = ls at hl ⊢
  have hl : lv_has ls 2 [(0, .ref y), (1, .int 2)] := hl
  refine lv_aload_n hx hb dX6_fails_0 rfl (lv_at hl 0 rfl) ?_
  refine lv_iload_n hx hb dX6_fails_1 rfl (lv_at hl 1 rfl) ?_
  refine m_put (f := 27) (by unfold mNum; decide) hx hb hts hi6 hown hA hH hS (hts (.fieldLink RX6 83 "ParoleCardsModel" "thrown" "I") (by decide +kernel)) dX6_fails_2 (fun H locs hH hS => ?_)
  refine lv_iload_n hx hb dX6_fails_5 rfl (lv_at hl 1 rfl) ?_
  refine lv_if_le (tgt := 13) hx hb dX6_fails_6 (by decide) (fun c_1 => absurd c_1 (by decide)) (fun _ => ?_)
  refine lv_iconst (v := 1) hx hb dX6_fails_9 (by decide) ?_
  refine lv_goto (tgt := 14) hx hb dX6_fails_10 (by decide) ?_
  exact z_zret hx hb hr hlocks hH hS rfl (by exact ⟨rfl, rfl⟩) (by decide) (by decide) dX6_fails_14
set_option maxHeartbeats 4000000 in
set_option maxRecDepth 100000 in
theorem c6_fails3 (l : Launch) (D : va_G) (cy : Nat → ClassId) (base : Nat) (w0 : zW) (y : Nat) (r : Nat → Nat) (B : Nat → Nat → Int32)  : Met l yX6_fails wsX6_fails ({ frames := 0, cells := 0, slots := 0, locals := 0 }) (zPc D cy base (mH D cy base w0 y r) [.ref y, .int 3] B) (zQi base (mH D cy base w0 y r) (fun (r0 : Int32) (u0 : Nat → Nat → Int32) => r0 = 1 ∧ u0 = (z2 B 27 0 3))) 0 0 (fun q => base ≤ q) := by
  refine Met.ofW (cc := cX6_fails) (maxL := 2) (ret := (some .boolean)) (by decide) rfl ?_
  intro p e s m args below meth c s₁ B9 hml hv
  obtain ⟨rfl, hA, hH⟩ := hv
  have hx := B9.exec
  have hb := B9.bytes
  have hr := B9.returns
  have hts := atoms_spec (ws := wsX6_fails) B9.pre
  have hown : s.vm.findClass RX6 = some m.cls := findClass_of_methodNamed B9.named
  have hlocks := B9.notSynchronized
  have hi6 : ∀ w ∈ wsX60, w ∈ wsX6_fails := by decide +kernel
  have hS : va_S (fun q : Nat => base ≤ q) s.heap s.heap [] := va_S.rf
  have hl := lv_entry ([.ref y, .int 3]) (n := 2) (Nat.le_of_ble_eq_true rfl)
  rw [lg_entry_eq]
  generalize (lg_sl ([.ref y, .int 3]) ++ List.replicate (2 - (lg_sl ([.ref y, .int 3])).length) Slot.unset).toArray = ls at hl ⊢
  have hl : lv_has ls 2 [(0, .ref y), (1, .int 3)] := hl
  refine lv_aload_n hx hb dX6_fails_0 rfl (lv_at hl 0 rfl) ?_
  refine lv_iload_n hx hb dX6_fails_1 rfl (lv_at hl 1 rfl) ?_
  refine m_put (f := 27) (by unfold mNum; decide) hx hb hts hi6 hown hA hH hS (hts (.fieldLink RX6 83 "ParoleCardsModel" "thrown" "I") (by decide +kernel)) dX6_fails_2 (fun H locs hH hS => ?_)
  refine lv_iload_n hx hb dX6_fails_5 rfl (lv_at hl 1 rfl) ?_
  refine lv_if_le (tgt := 13) hx hb dX6_fails_6 (by decide) (fun c_1 => absurd c_1 (by decide)) (fun _ => ?_)
  refine lv_iconst (v := 1) hx hb dX6_fails_9 (by decide) ?_
  refine lv_goto (tgt := 14) hx hb dX6_fails_10 (by decide) ?_
  exact z_zret hx hb hr hlocks hH hS rfl (by exact ⟨rfl, rfl⟩) (by decide) (by decide) dX6_fails_14
set_option maxHeartbeats 4000000 in
set_option maxRecDepth 100000 in
theorem c6_thrown (l : Launch) (D : va_G) (cy : Nat → ClassId) (base : Nat) (w0 : zW) (y : Nat) (r : Nat → Nat) (B : Nat → Nat → Int32)  : Met l yX6_thrown wsX6_thrown ({ frames := 0, cells := 0, slots := 0, locals := 0 }) (zPc D cy base (mH D cy base w0 y r) [.ref y] B) (zQi base (mH D cy base w0 y r) (fun (r0 : Int32) (u0 : Nat → Nat → Int32) => r0 = (B 27 0) ∧ u0 = B)) 0 0 (fun q => base ≤ q) := by
  refine Met.ofW (cc := cX6_thrown) (maxL := 1) (ret := (some .int)) (by decide) rfl ?_
  intro p e s m args below meth c s₁ B9 hml hv
  obtain ⟨rfl, hA, hH⟩ := hv
  have hx := B9.exec
  have hb := B9.bytes
  have hr := B9.returns
  have hts := atoms_spec (ws := wsX6_thrown) B9.pre
  have hown : s.vm.findClass RX6 = some m.cls := findClass_of_methodNamed B9.named
  have hlocks := B9.notSynchronized
  have hi6 : ∀ w ∈ wsX60, w ∈ wsX6_thrown := by decide +kernel
  have hS : va_S (fun q : Nat => base ≤ q) s.heap s.heap [] := va_S.rf
  have hl := lv_entry ([.ref y]) (n := 1) (Nat.le_of_ble_eq_true rfl)
  rw [lg_entry_eq]
  generalize (lg_sl ([.ref y]) ++ List.replicate (1 - (lg_sl ([.ref y])).length) Slot.unset).toArray = ls at hl ⊢
  have hl : lv_has ls 1 [(0, .ref y)] := hl
  refine lv_aload_n hx hb dX6_thrown_0 rfl (lv_at hl 0 rfl) ?_
  refine m_num (f := 27) (by unfold mNum; decide) hx hb hts hi6 hown hA hH (hts (.fieldLink RX6 83 "ParoleCardsModel" "thrown" "I") (by decide +kernel)) dX6_thrown_1 ?_
  exact z_iret hx hb hr hlocks hH hS (by exact ⟨rfl, rfl⟩) (by decide) (by decide) dX6_thrown_4
set_option maxHeartbeats 4000000 in
set_option maxRecDepth 100000 in
theorem c6_gains (l : Launch) (D : va_G) (cy : Nat → ClassId) (base : Nat) (w0 : zW) (y : Nat) (r : Nat → Nat) (B : Nat → Nat → Int32) (i : Nat) (hi : i < 10) : Met l yX6_gains wsX6_gains ({ frames := 0, cells := 0, slots := 0, locals := 0 }) (zPc D cy base (mH D cy base w0 y r) [.ref y, .int (nI i)] B) (zQi base (mH D cy base w0 y r) (fun (r0 : Int32) (u0 : Nat → Nat → Int32) => r0 = (((B 7 i) / 5) + (B 8 i)) ∧ u0 = B)) 0 0 (fun q => base ≤ q) := by
  refine Met.ofW (cc := cX6_gains) (maxL := 2) (ret := (some .int)) (by decide) rfl ?_
  intro p e s m args below meth c s₁ B9 hml hv
  obtain ⟨rfl, hA, hH⟩ := hv
  have hx := B9.exec
  have hb := B9.bytes
  have hr := B9.returns
  have hts := atoms_spec (ws := wsX6_gains) B9.pre
  have hown : s.vm.findClass RX6 = some m.cls := findClass_of_methodNamed B9.named
  have hlocks := B9.notSynchronized
  have hi6 : ∀ w ∈ wsX60, w ∈ wsX6_gains := by decide +kernel
  have hS : va_S (fun q : Nat => base ≤ q) s.heap s.heap [] := va_S.rf
  have hl := lv_entry ([.ref y, .int (nI i)]) (n := 2) (Nat.le_of_ble_eq_true rfl)
  rw [lg_entry_eq]
  generalize (lg_sl ([.ref y, .int (nI i)]) ++ List.replicate (2 - (lg_sl ([.ref y, .int (nI i)])).length) Slot.unset).toArray = ls at hl ⊢
  have hl : lv_has ls 2 [(0, .ref y), (1, .int (nI i))] := hl
  refine lv_aload_n hx hb dX6_gains_0 rfl (lv_at hl 0 rfl) ?_
  refine m_arr (f := 7) (by unfold mArr; decide) hx hb hts hi6 hown hA hH (hts (.fieldLink RX6 26 "ParoleCardsModel" "worked" "[I") (by decide +kernel)) rfl dX6_gains_1 ?_
  refine lv_iload_n hx hb dX6_gains_4 rfl (lv_at hl 1 rfl) ?_
  refine m_iald (f := 7) (by unfold mArr; decide) rfl hx hb hA hH i rfl (by rw [show mLen 7 = 10 from rfl]; omega) dX6_gains_5 ?_
  refine lv_iconst (v := 5) hx hb dX6_gains_6 (by decide) ?_
  refine lv_idiv hx hb dX6_gains_7 (by decide) ?_
  refine lv_aload_n hx hb dX6_gains_8 rfl (lv_at hl 0 rfl) ?_
  refine m_arr (f := 8) (by unfold mArr; decide) hx hb hts hi6 hown hA hH (hts (.fieldLink RX6 29 "ParoleCardsModel" "gained" "[I") (by decide +kernel)) rfl dX6_gains_9 ?_
  refine lv_iload_n hx hb dX6_gains_12 rfl (lv_at hl 1 rfl) ?_
  refine m_iald (f := 8) (by unfold mArr; decide) rfl hx hb hA hH i rfl (by rw [show mLen 8 = 10 from rfl]; omega) dX6_gains_13 ?_
  refine lv_iadd hx hb dX6_gains_14 ?_
  exact z_iret hx hb hr hlocks hH hS (by exact ⟨rfl, rfl⟩) (by decide) (by decide) dX6_gains_15
