set_option maxHeartbeats 4000000 in
set_option maxRecDepth 100000 in
theorem c6_of6_t (l : Launch) (D : va_G) (cy : Nat → ClassId) (base : Nat) (w0 : zW) (y : Nat) (r : Nat → Nat) (B : Nat → Nat → Int32) (i : Nat) (hi : i < 10) (h9 : vP B (nI i) = true) : Met l yX6_of wsX6_of ({ frames := 2, cells := 0, slots := 0, locals := 43 }) (zPc D cy base (mH D cy base w0 y r) [.ref y, .ref (r 6), .int (nI i)] B) (zQi base (mH D cy base w0 y r) (fun (r0 : Int32) (u0 : Nat → Nat → Int32) => r0 = (B 6 i) ∧ u0 = (z2 B 27 0 0))) 0 0 (fun q => base ≤ q) := by
  refine Met.ofW (cc := cX6_of) (maxL := 3) (ret := (some .int)) (by decide) rfl ?_
  intro p e s m args below meth c s₁ B9 hml hv
  obtain ⟨rfl, hA, hH⟩ := hv
  have hx := B9.exec
  have hb := B9.bytes
  have hr := B9.returns
  have hts := atoms_spec (ws := wsX6_of) B9.pre
  have hown : s.vm.findClass RX6 = some m.cls := findClass_of_methodNamed B9.named
  have hlocks := B9.notSynchronized
  have hS : va_S (fun q : Nat => base ≤ q) s.heap s.heap [] := va_S.rf
  have hl := lv_entry ([.ref y, .ref (r 6), .int (nI i)]) (n := 3) (Nat.le_of_ble_eq_true rfl)
  rw [lg_entry_eq]
  generalize (lg_sl ([.ref y, .ref (r 6), .int (nI i)]) ++ List.replicate (3 - (lg_sl ([.ref y, .ref (r 6), .int (nI i)])).length) Slot.unset).toArray = ls at hl ⊢
  have hl : lv_has ls 3 [(0, .ref y), (1, .ref (r 6)), (2, .int (nI i))] := hl
  refine lv_aload_n hx hb dX6_of_0 rfl (lv_at hl 0 rfl) ?_
  refine lv_aload_n hx hb dX6_of_1 rfl (lv_at hl 0 rfl) ?_
  refine lv_iload_n hx hb dX6_of_2 rfl (lv_at hl 2 rfl) ?_
  refine z_calli (va_runV (As := [.int (nI i)]) (rest := [.ref y]) ⟨hx, hb, hml, hown, hts⟩ (c6_isPerson_t l D cy base w0 y r B i h9) (cwV 1 hts gX6_of_X6_isPerson rfl rfl rfl (by decide +kernel) ⟨Nat.le_of_ble_eq_true rfl, Nat.le_of_ble_eq_true rfl⟩) (z_preV hA hS hH (m_recv hA hH)) rfl rfl hl.1 rfl (lv_room (Nat.le_of_ble_eq_true rfl)) dX6_of_3 ⟨Nat.le_of_ble_eq_true rfl, Nat.le_of_ble_eq_true rfl⟩) hS (fun r_k_1 u_k_1 H locs hw_k_1 hH hz_k_1 hS => ?_)
  rcases hw_k_1 with ⟨rfl, hu_k_1⟩
  rw [hu_k_1] at hH
  refine lv_if_eq (tgt := 13) hx hb dX6_of_6 (by decide) (fun c_2 => absurd c_2 (by decide)) (fun _ => ?_)
  refine lv_iconst (v := 0) hx hb dX6_of_9 (by decide) ?_
  refine lv_goto (tgt := 14) hx hb dX6_of_10 (by decide) ?_
  refine z_calli (va_runV (As := [.int 0]) (rest := []) ⟨hx, hb, hml, hown, hts⟩ (c6_fails0 l D cy base w0 y r B  ) (cwV 1 hts gX6_of_X6_fails rfl rfl rfl (by decide +kernel) ⟨Nat.le_of_ble_eq_true rfl, Nat.le_of_ble_eq_true rfl⟩) (z_preV hA hS hH (m_recv hA hH)) rfl rfl hl.1 rfl (lv_room (Nat.le_of_ble_eq_true rfl)) dX6_of_14 ⟨Nat.le_of_ble_eq_true rfl, Nat.le_of_ble_eq_true rfl⟩) hS (fun r_k_3 u_k_3 H locs hw_k_3 hH hz_k_3 hS => ?_)
  rcases hw_k_3 with ⟨rfl, hu_k_3⟩
  rw [hu_k_3] at hH
  refine lv_if_eq (tgt := 24) hx hb dX6_of_17 (by decide) (fun _ => ?_) (fun c_4 => absurd c_4 (by decide))
  refine lv_aload_n hx hb dX6_of_24 rfl (lv_at hl 1 rfl) ?_
  refine lv_iload_n hx hb dX6_of_25 rfl (lv_at hl 2 rfl) ?_
  refine m_iald (f := 6) (v := (B 6 i)) (by unfold mArr; decide) rfl hx hb hA hH i rfl (by rw [show mLen 6 = 10 from rfl]; omega) rfl dX6_of_26 ?_
  exact z_iret hx hb hr hlocks hH hS (by exact ⟨rfl, rfl⟩) (by decide) (by decide) dX6_of_27
set_option maxHeartbeats 4000000 in
set_option maxRecDepth 100000 in
theorem c6_of6_f (l : Launch) (D : va_G) (cy : Nat → ClassId) (base : Nat) (w0 : zW) (y : Nat) (r : Nat → Nat) (B : Nat → Nat → Int32) (v : Int32) (h9 : vP B v = false) : Met l yX6_of wsX6_of ({ frames := 2, cells := 0, slots := 0, locals := 43 }) (zPc D cy base (mH D cy base w0 y r) [.ref y, .ref (r 6), .int v] B) (zQi base (mH D cy base w0 y r) (fun (r0 : Int32) (u0 : Nat → Nat → Int32) => r0 = 0 ∧ u0 = (z2 B 27 0 1))) 0 0 (fun q => base ≤ q) := by
  refine Met.ofW (cc := cX6_of) (maxL := 3) (ret := (some .int)) (by decide) rfl ?_
  intro p e s m args below meth c s₁ B9 hml hv
  obtain ⟨rfl, hA, hH⟩ := hv
  have hx := B9.exec
  have hb := B9.bytes
  have hr := B9.returns
  have hts := atoms_spec (ws := wsX6_of) B9.pre
  have hown : s.vm.findClass RX6 = some m.cls := findClass_of_methodNamed B9.named
  have hlocks := B9.notSynchronized
  have hS : va_S (fun q : Nat => base ≤ q) s.heap s.heap [] := va_S.rf
  have hl := lv_entry ([.ref y, .ref (r 6), .int v]) (n := 3) (Nat.le_of_ble_eq_true rfl)
  rw [lg_entry_eq]
  generalize (lg_sl ([.ref y, .ref (r 6), .int v]) ++ List.replicate (3 - (lg_sl ([.ref y, .ref (r 6), .int v])).length) Slot.unset).toArray = ls at hl ⊢
  have hl : lv_has ls 3 [(0, .ref y), (1, .ref (r 6)), (2, .int v)] := hl
  refine lv_aload_n hx hb dX6_of_0 rfl (lv_at hl 0 rfl) ?_
  refine lv_aload_n hx hb dX6_of_1 rfl (lv_at hl 0 rfl) ?_
  refine lv_iload_n hx hb dX6_of_2 rfl (lv_at hl 2 rfl) ?_
  refine z_calli (va_runV (As := [.int v]) (rest := [.ref y]) ⟨hx, hb, hml, hown, hts⟩ (c6_isPerson_f l D cy base w0 y r B v h9) (cwV 1 hts gX6_of_X6_isPerson rfl rfl rfl (by decide +kernel) ⟨Nat.le_of_ble_eq_true rfl, Nat.le_of_ble_eq_true rfl⟩) (z_preV hA hS hH (m_recv hA hH)) rfl rfl hl.1 rfl (lv_room (Nat.le_of_ble_eq_true rfl)) dX6_of_3 ⟨Nat.le_of_ble_eq_true rfl, Nat.le_of_ble_eq_true rfl⟩) hS (fun r_k_1 u_k_1 H locs hw_k_1 hH hz_k_1 hS => ?_)
  rcases hw_k_1 with ⟨rfl, hu_k_1⟩
  rw [hu_k_1] at hH
  refine lv_if_eq (tgt := 13) hx hb dX6_of_6 (by decide) (fun _ => ?_) (fun c_2 => absurd c_2 (by decide))
  refine lv_iconst (v := 1) hx hb dX6_of_13 (by decide) ?_
  refine z_calli (va_runV (As := [.int 1]) (rest := []) ⟨hx, hb, hml, hown, hts⟩ (c6_fails1 l D cy base w0 y r B  ) (cwV 1 hts gX6_of_X6_fails rfl rfl rfl (by decide +kernel) ⟨Nat.le_of_ble_eq_true rfl, Nat.le_of_ble_eq_true rfl⟩) (z_preV hA hS hH (m_recv hA hH)) rfl rfl hl.1 rfl (lv_room (Nat.le_of_ble_eq_true rfl)) dX6_of_14 ⟨Nat.le_of_ble_eq_true rfl, Nat.le_of_ble_eq_true rfl⟩) hS (fun r_k_3 u_k_3 H locs hw_k_3 hH hz_k_3 hS => ?_)
  rcases hw_k_3 with ⟨rfl, hu_k_3⟩
  rw [hu_k_3] at hH
  refine lv_if_eq (tgt := 24) hx hb dX6_of_17 (by decide) (fun c_4 => absurd c_4 (by decide)) (fun _ => ?_)
  refine lv_iconst (v := 0) hx hb dX6_of_20 (by decide) ?_
  refine lv_goto (tgt := 27) hx hb dX6_of_21 (by decide) ?_
  exact z_iret hx hb hr hlocks hH hS (by exact ⟨rfl, rfl⟩) (by decide) (by decide) dX6_of_27
set_option maxHeartbeats 4000000 in
set_option maxRecDepth 100000 in
theorem c6_of11_t (l : Launch) (D : va_G) (cy : Nat → ClassId) (base : Nat) (w0 : zW) (y : Nat) (r : Nat → Nat) (B : Nat → Nat → Int32) (i : Nat) (hi : i < 10) (h9 : vP B (nI i) = true) : Met l yX6_of wsX6_of ({ frames := 2, cells := 0, slots := 0, locals := 43 }) (zPc D cy base (mH D cy base w0 y r) [.ref y, .ref (r 11), .int (nI i)] B) (zQi base (mH D cy base w0 y r) (fun (r0 : Int32) (u0 : Nat → Nat → Int32) => r0 = (B 11 i) ∧ u0 = (z2 B 27 0 0))) 0 0 (fun q => base ≤ q) := by
  refine Met.ofW (cc := cX6_of) (maxL := 3) (ret := (some .int)) (by decide) rfl ?_
  intro p e s m args below meth c s₁ B9 hml hv
  obtain ⟨rfl, hA, hH⟩ := hv
  have hx := B9.exec
  have hb := B9.bytes
  have hr := B9.returns
  have hts := atoms_spec (ws := wsX6_of) B9.pre
  have hown : s.vm.findClass RX6 = some m.cls := findClass_of_methodNamed B9.named
  have hlocks := B9.notSynchronized
  have hS : va_S (fun q : Nat => base ≤ q) s.heap s.heap [] := va_S.rf
  have hl := lv_entry ([.ref y, .ref (r 11), .int (nI i)]) (n := 3) (Nat.le_of_ble_eq_true rfl)
  rw [lg_entry_eq]
  generalize (lg_sl ([.ref y, .ref (r 11), .int (nI i)]) ++ List.replicate (3 - (lg_sl ([.ref y, .ref (r 11), .int (nI i)])).length) Slot.unset).toArray = ls at hl ⊢
  have hl : lv_has ls 3 [(0, .ref y), (1, .ref (r 11)), (2, .int (nI i))] := hl
  refine lv_aload_n hx hb dX6_of_0 rfl (lv_at hl 0 rfl) ?_
  refine lv_aload_n hx hb dX6_of_1 rfl (lv_at hl 0 rfl) ?_
  refine lv_iload_n hx hb dX6_of_2 rfl (lv_at hl 2 rfl) ?_
  refine z_calli (va_runV (As := [.int (nI i)]) (rest := [.ref y]) ⟨hx, hb, hml, hown, hts⟩ (c6_isPerson_t l D cy base w0 y r B i h9) (cwV 1 hts gX6_of_X6_isPerson rfl rfl rfl (by decide +kernel) ⟨Nat.le_of_ble_eq_true rfl, Nat.le_of_ble_eq_true rfl⟩) (z_preV hA hS hH (m_recv hA hH)) rfl rfl hl.1 rfl (lv_room (Nat.le_of_ble_eq_true rfl)) dX6_of_3 ⟨Nat.le_of_ble_eq_true rfl, Nat.le_of_ble_eq_true rfl⟩) hS (fun r_k_1 u_k_1 H locs hw_k_1 hH hz_k_1 hS => ?_)
  rcases hw_k_1 with ⟨rfl, hu_k_1⟩
  rw [hu_k_1] at hH
  refine lv_if_eq (tgt := 13) hx hb dX6_of_6 (by decide) (fun c_2 => absurd c_2 (by decide)) (fun _ => ?_)
  refine lv_iconst (v := 0) hx hb dX6_of_9 (by decide) ?_
  refine lv_goto (tgt := 14) hx hb dX6_of_10 (by decide) ?_
  refine z_calli (va_runV (As := [.int 0]) (rest := []) ⟨hx, hb, hml, hown, hts⟩ (c6_fails0 l D cy base w0 y r B  ) (cwV 1 hts gX6_of_X6_fails rfl rfl rfl (by decide +kernel) ⟨Nat.le_of_ble_eq_true rfl, Nat.le_of_ble_eq_true rfl⟩) (z_preV hA hS hH (m_recv hA hH)) rfl rfl hl.1 rfl (lv_room (Nat.le_of_ble_eq_true rfl)) dX6_of_14 ⟨Nat.le_of_ble_eq_true rfl, Nat.le_of_ble_eq_true rfl⟩) hS (fun r_k_3 u_k_3 H locs hw_k_3 hH hz_k_3 hS => ?_)
  rcases hw_k_3 with ⟨rfl, hu_k_3⟩
  rw [hu_k_3] at hH
  refine lv_if_eq (tgt := 24) hx hb dX6_of_17 (by decide) (fun _ => ?_) (fun c_4 => absurd c_4 (by decide))
  refine lv_aload_n hx hb dX6_of_24 rfl (lv_at hl 1 rfl) ?_
  refine lv_iload_n hx hb dX6_of_25 rfl (lv_at hl 2 rfl) ?_
  refine m_iald (f := 11) (v := (B 11 i)) (by unfold mArr; decide) rfl hx hb hA hH i rfl (by rw [show mLen 11 = 10 from rfl]; omega) rfl dX6_of_26 ?_
  exact z_iret hx hb hr hlocks hH hS (by exact ⟨rfl, rfl⟩) (by decide) (by decide) dX6_of_27
set_option maxHeartbeats 4000000 in
set_option maxRecDepth 100000 in
theorem c6_of11_f (l : Launch) (D : va_G) (cy : Nat → ClassId) (base : Nat) (w0 : zW) (y : Nat) (r : Nat → Nat) (B : Nat → Nat → Int32) (v : Int32) (h9 : vP B v = false) : Met l yX6_of wsX6_of ({ frames := 2, cells := 0, slots := 0, locals := 43 }) (zPc D cy base (mH D cy base w0 y r) [.ref y, .ref (r 11), .int v] B) (zQi base (mH D cy base w0 y r) (fun (r0 : Int32) (u0 : Nat → Nat → Int32) => r0 = 0 ∧ u0 = (z2 B 27 0 1))) 0 0 (fun q => base ≤ q) := by
  refine Met.ofW (cc := cX6_of) (maxL := 3) (ret := (some .int)) (by decide) rfl ?_
  intro p e s m args below meth c s₁ B9 hml hv
  obtain ⟨rfl, hA, hH⟩ := hv
  have hx := B9.exec
  have hb := B9.bytes
  have hr := B9.returns
  have hts := atoms_spec (ws := wsX6_of) B9.pre
  have hown : s.vm.findClass RX6 = some m.cls := findClass_of_methodNamed B9.named
  have hlocks := B9.notSynchronized
  have hS : va_S (fun q : Nat => base ≤ q) s.heap s.heap [] := va_S.rf
  have hl := lv_entry ([.ref y, .ref (r 11), .int v]) (n := 3) (Nat.le_of_ble_eq_true rfl)
  rw [lg_entry_eq]
  generalize (lg_sl ([.ref y, .ref (r 11), .int v]) ++ List.replicate (3 - (lg_sl ([.ref y, .ref (r 11), .int v])).length) Slot.unset).toArray = ls at hl ⊢
  have hl : lv_has ls 3 [(0, .ref y), (1, .ref (r 11)), (2, .int v)] := hl
  refine lv_aload_n hx hb dX6_of_0 rfl (lv_at hl 0 rfl) ?_
  refine lv_aload_n hx hb dX6_of_1 rfl (lv_at hl 0 rfl) ?_
  refine lv_iload_n hx hb dX6_of_2 rfl (lv_at hl 2 rfl) ?_
  refine z_calli (va_runV (As := [.int v]) (rest := [.ref y]) ⟨hx, hb, hml, hown, hts⟩ (c6_isPerson_f l D cy base w0 y r B v h9) (cwV 1 hts gX6_of_X6_isPerson rfl rfl rfl (by decide +kernel) ⟨Nat.le_of_ble_eq_true rfl, Nat.le_of_ble_eq_true rfl⟩) (z_preV hA hS hH (m_recv hA hH)) rfl rfl hl.1 rfl (lv_room (Nat.le_of_ble_eq_true rfl)) dX6_of_3 ⟨Nat.le_of_ble_eq_true rfl, Nat.le_of_ble_eq_true rfl⟩) hS (fun r_k_1 u_k_1 H locs hw_k_1 hH hz_k_1 hS => ?_)
  rcases hw_k_1 with ⟨rfl, hu_k_1⟩
  rw [hu_k_1] at hH
  refine lv_if_eq (tgt := 13) hx hb dX6_of_6 (by decide) (fun _ => ?_) (fun c_2 => absurd c_2 (by decide))
  refine lv_iconst (v := 1) hx hb dX6_of_13 (by decide) ?_
  refine z_calli (va_runV (As := [.int 1]) (rest := []) ⟨hx, hb, hml, hown, hts⟩ (c6_fails1 l D cy base w0 y r B  ) (cwV 1 hts gX6_of_X6_fails rfl rfl rfl (by decide +kernel) ⟨Nat.le_of_ble_eq_true rfl, Nat.le_of_ble_eq_true rfl⟩) (z_preV hA hS hH (m_recv hA hH)) rfl rfl hl.1 rfl (lv_room (Nat.le_of_ble_eq_true rfl)) dX6_of_14 ⟨Nat.le_of_ble_eq_true rfl, Nat.le_of_ble_eq_true rfl⟩) hS (fun r_k_3 u_k_3 H locs hw_k_3 hH hz_k_3 hS => ?_)
  rcases hw_k_3 with ⟨rfl, hu_k_3⟩
  rw [hu_k_3] at hH
  refine lv_if_eq (tgt := 24) hx hb dX6_of_17 (by decide) (fun c_4 => absurd c_4 (by decide)) (fun _ => ?_)
  refine lv_iconst (v := 0) hx hb dX6_of_20 (by decide) ?_
  refine lv_goto (tgt := 27) hx hb dX6_of_21 (by decide) ?_
  exact z_iret hx hb hr hlocks hH hS (by exact ⟨rfl, rfl⟩) (by decide) (by decide) dX6_of_27
set_option maxHeartbeats 4000000 in
set_option maxRecDepth 100000 in
theorem c6_of13_t (l : Launch) (D : va_G) (cy : Nat → ClassId) (base : Nat) (w0 : zW) (y : Nat) (r : Nat → Nat) (B : Nat → Nat → Int32) (i : Nat) (hi : i < 10) (h9 : vP B (nI i) = true) : Met l yX6_of wsX6_of ({ frames := 2, cells := 0, slots := 0, locals := 43 }) (zPc D cy base (mH D cy base w0 y r) [.ref y, .ref (r 13), .int (nI i)] B) (zQi base (mH D cy base w0 y r) (fun (r0 : Int32) (u0 : Nat → Nat → Int32) => r0 = (B 13 i) ∧ u0 = (z2 B 27 0 0))) 0 0 (fun q => base ≤ q) := by
  refine Met.ofW (cc := cX6_of) (maxL := 3) (ret := (some .int)) (by decide) rfl ?_
  intro p e s m args below meth c s₁ B9 hml hv
  obtain ⟨rfl, hA, hH⟩ := hv
  have hx := B9.exec
  have hb := B9.bytes
  have hr := B9.returns
  have hts := atoms_spec (ws := wsX6_of) B9.pre
  have hown : s.vm.findClass RX6 = some m.cls := findClass_of_methodNamed B9.named
  have hlocks := B9.notSynchronized
  have hS : va_S (fun q : Nat => base ≤ q) s.heap s.heap [] := va_S.rf
  have hl := lv_entry ([.ref y, .ref (r 13), .int (nI i)]) (n := 3) (Nat.le_of_ble_eq_true rfl)
  rw [lg_entry_eq]
  generalize (lg_sl ([.ref y, .ref (r 13), .int (nI i)]) ++ List.replicate (3 - (lg_sl ([.ref y, .ref (r 13), .int (nI i)])).length) Slot.unset).toArray = ls at hl ⊢
  have hl : lv_has ls 3 [(0, .ref y), (1, .ref (r 13)), (2, .int (nI i))] := hl
  refine lv_aload_n hx hb dX6_of_0 rfl (lv_at hl 0 rfl) ?_
  refine lv_aload_n hx hb dX6_of_1 rfl (lv_at hl 0 rfl) ?_
  refine lv_iload_n hx hb dX6_of_2 rfl (lv_at hl 2 rfl) ?_
  refine z_calli (va_runV (As := [.int (nI i)]) (rest := [.ref y]) ⟨hx, hb, hml, hown, hts⟩ (c6_isPerson_t l D cy base w0 y r B i h9) (cwV 1 hts gX6_of_X6_isPerson rfl rfl rfl (by decide +kernel) ⟨Nat.le_of_ble_eq_true rfl, Nat.le_of_ble_eq_true rfl⟩) (z_preV hA hS hH (m_recv hA hH)) rfl rfl hl.1 rfl (lv_room (Nat.le_of_ble_eq_true rfl)) dX6_of_3 ⟨Nat.le_of_ble_eq_true rfl, Nat.le_of_ble_eq_true rfl⟩) hS (fun r_k_1 u_k_1 H locs hw_k_1 hH hz_k_1 hS => ?_)
  rcases hw_k_1 with ⟨rfl, hu_k_1⟩
  rw [hu_k_1] at hH
  refine lv_if_eq (tgt := 13) hx hb dX6_of_6 (by decide) (fun c_2 => absurd c_2 (by decide)) (fun _ => ?_)
  refine lv_iconst (v := 0) hx hb dX6_of_9 (by decide) ?_
  refine lv_goto (tgt := 14) hx hb dX6_of_10 (by decide) ?_
  refine z_calli (va_runV (As := [.int 0]) (rest := []) ⟨hx, hb, hml, hown, hts⟩ (c6_fails0 l D cy base w0 y r B  ) (cwV 1 hts gX6_of_X6_fails rfl rfl rfl (by decide +kernel) ⟨Nat.le_of_ble_eq_true rfl, Nat.le_of_ble_eq_true rfl⟩) (z_preV hA hS hH (m_recv hA hH)) rfl rfl hl.1 rfl (lv_room (Nat.le_of_ble_eq_true rfl)) dX6_of_14 ⟨Nat.le_of_ble_eq_true rfl, Nat.le_of_ble_eq_true rfl⟩) hS (fun r_k_3 u_k_3 H locs hw_k_3 hH hz_k_3 hS => ?_)
  rcases hw_k_3 with ⟨rfl, hu_k_3⟩
  rw [hu_k_3] at hH
  refine lv_if_eq (tgt := 24) hx hb dX6_of_17 (by decide) (fun _ => ?_) (fun c_4 => absurd c_4 (by decide))
  refine lv_aload_n hx hb dX6_of_24 rfl (lv_at hl 1 rfl) ?_
  refine lv_iload_n hx hb dX6_of_25 rfl (lv_at hl 2 rfl) ?_
  refine m_iald (f := 13) (v := (B 13 i)) (by unfold mArr; decide) rfl hx hb hA hH i rfl (by rw [show mLen 13 = 10 from rfl]; omega) rfl dX6_of_26 ?_
  exact z_iret hx hb hr hlocks hH hS (by exact ⟨rfl, rfl⟩) (by decide) (by decide) dX6_of_27
set_option maxHeartbeats 4000000 in
set_option maxRecDepth 100000 in
theorem c6_of13_f (l : Launch) (D : va_G) (cy : Nat → ClassId) (base : Nat) (w0 : zW) (y : Nat) (r : Nat → Nat) (B : Nat → Nat → Int32) (v : Int32) (h9 : vP B v = false) : Met l yX6_of wsX6_of ({ frames := 2, cells := 0, slots := 0, locals := 43 }) (zPc D cy base (mH D cy base w0 y r) [.ref y, .ref (r 13), .int v] B) (zQi base (mH D cy base w0 y r) (fun (r0 : Int32) (u0 : Nat → Nat → Int32) => r0 = 0 ∧ u0 = (z2 B 27 0 1))) 0 0 (fun q => base ≤ q) := by
  refine Met.ofW (cc := cX6_of) (maxL := 3) (ret := (some .int)) (by decide) rfl ?_
  intro p e s m args below meth c s₁ B9 hml hv
  obtain ⟨rfl, hA, hH⟩ := hv
  have hx := B9.exec
  have hb := B9.bytes
  have hr := B9.returns
  have hts := atoms_spec (ws := wsX6_of) B9.pre
  have hown : s.vm.findClass RX6 = some m.cls := findClass_of_methodNamed B9.named
  have hlocks := B9.notSynchronized
  have hS : va_S (fun q : Nat => base ≤ q) s.heap s.heap [] := va_S.rf
  have hl := lv_entry ([.ref y, .ref (r 13), .int v]) (n := 3) (Nat.le_of_ble_eq_true rfl)
  rw [lg_entry_eq]
  generalize (lg_sl ([.ref y, .ref (r 13), .int v]) ++ List.replicate (3 - (lg_sl ([.ref y, .ref (r 13), .int v])).length) Slot.unset).toArray = ls at hl ⊢
  have hl : lv_has ls 3 [(0, .ref y), (1, .ref (r 13)), (2, .int v)] := hl
  refine lv_aload_n hx hb dX6_of_0 rfl (lv_at hl 0 rfl) ?_
  refine lv_aload_n hx hb dX6_of_1 rfl (lv_at hl 0 rfl) ?_
  refine lv_iload_n hx hb dX6_of_2 rfl (lv_at hl 2 rfl) ?_
  refine z_calli (va_runV (As := [.int v]) (rest := [.ref y]) ⟨hx, hb, hml, hown, hts⟩ (c6_isPerson_f l D cy base w0 y r B v h9) (cwV 1 hts gX6_of_X6_isPerson rfl rfl rfl (by decide +kernel) ⟨Nat.le_of_ble_eq_true rfl, Nat.le_of_ble_eq_true rfl⟩) (z_preV hA hS hH (m_recv hA hH)) rfl rfl hl.1 rfl (lv_room (Nat.le_of_ble_eq_true rfl)) dX6_of_3 ⟨Nat.le_of_ble_eq_true rfl, Nat.le_of_ble_eq_true rfl⟩) hS (fun r_k_1 u_k_1 H locs hw_k_1 hH hz_k_1 hS => ?_)
  rcases hw_k_1 with ⟨rfl, hu_k_1⟩
  rw [hu_k_1] at hH
  refine lv_if_eq (tgt := 13) hx hb dX6_of_6 (by decide) (fun _ => ?_) (fun c_2 => absurd c_2 (by decide))
  refine lv_iconst (v := 1) hx hb dX6_of_13 (by decide) ?_
  refine z_calli (va_runV (As := [.int 1]) (rest := []) ⟨hx, hb, hml, hown, hts⟩ (c6_fails1 l D cy base w0 y r B  ) (cwV 1 hts gX6_of_X6_fails rfl rfl rfl (by decide +kernel) ⟨Nat.le_of_ble_eq_true rfl, Nat.le_of_ble_eq_true rfl⟩) (z_preV hA hS hH (m_recv hA hH)) rfl rfl hl.1 rfl (lv_room (Nat.le_of_ble_eq_true rfl)) dX6_of_14 ⟨Nat.le_of_ble_eq_true rfl, Nat.le_of_ble_eq_true rfl⟩) hS (fun r_k_3 u_k_3 H locs hw_k_3 hH hz_k_3 hS => ?_)
  rcases hw_k_3 with ⟨rfl, hu_k_3⟩
  rw [hu_k_3] at hH
  refine lv_if_eq (tgt := 24) hx hb dX6_of_17 (by decide) (fun c_4 => absurd c_4 (by decide)) (fun _ => ?_)
  refine lv_iconst (v := 0) hx hb dX6_of_20 (by decide) ?_
  refine lv_goto (tgt := 27) hx hb dX6_of_21 (by decide) ?_
  exact z_iret hx hb hr hlocks hH hS (by exact ⟨rfl, rfl⟩) (by decide) (by decide) dX6_of_27
set_option maxHeartbeats 4000000 in
set_option maxRecDepth 100000 in
theorem c6_out (l : Launch) (D : va_G) (cy : Nat → ClassId) (base : Nat) (w0 : zW) (y : Nat) (r : Nat → Nat) (B : Nat → Nat → Int32) (d : Int32) (hinv : mInv B) : Met l yX6_out wsX6_out ({ frames := 0, cells := 0, slots := 0, locals := 0 }) (zPc D cy base (mH D cy base w0 y r) [.ref y, .int d] B) (zQi base (mH D cy base w0 y r) (fun (r0 : Int32) (u0 : Nat → Nat → Int32) => r0 = (sOut B d (nP B)) ∧ u0 = B)) 0 0 (fun q => base ≤ q) := by
  refine Met.ofW (cc := cX6_out) (maxL := 4) (ret := (some .int)) (by decide) rfl ?_
  intro p e s m args below meth c s₁ B9 hml hv
  obtain ⟨rfl, hA, hH⟩ := hv
  have hx := B9.exec
  have hb := B9.bytes
  have hr := B9.returns
  have hts := atoms_spec (ws := wsX6_out) B9.pre
  have hown : s.vm.findClass RX6 = some m.cls := findClass_of_methodNamed B9.named
  have hlocks := B9.notSynchronized
  have hi6 : ∀ w ∈ wsX60, w ∈ wsX6_out := by decide +kernel
  have hS : va_S (fun q : Nat => base ≤ q) s.heap s.heap [] := va_S.rf
  have hl := lv_entry ([.ref y, .int d]) (n := 4) (Nat.le_of_ble_eq_true rfl)
  rw [lg_entry_eq]
  generalize (lg_sl ([.ref y, .int d]) ++ List.replicate (4 - (lg_sl ([.ref y, .int d])).length) Slot.unset).toArray = ls at hl ⊢
  have hl : lv_has ls 4 [(0, .ref y), (1, .int d)] := hl
  refine lv_iconst (v := 0) hx hb dX6_out_0 (by decide) ?_
  refine lv_istore_n (lv' := [(2, .int 0), (0, .ref y), (1, .int d)]) hx hb dX6_out_1 rfl hl (by decide) rfl (fun ls hl => ?_)
  refine lv_iconst (v := 0) hx hb dX6_out_2 (by decide) ?_
  refine lv_istore_n (lv' := [(3, .int 0), (2, .int 0), (0, .ref y), (1, .int d)]) hx hb dX6_out_3 rfl hl (by decide) rfl (fun ls hl => ?_)
  have hl_1 : lv_has ls 4 [(0, .ref y), (1, .int d), (2, .int 0), (3, .int 0)] := lv_sub hl [2, 3, 1, 0] rfl
  have hl_1 : lv_has ls 4 [(0, .ref y), (1, .int d), (2, .int (sOut B d 0)), (3, .int (nI 0))] := hl_1
  refine z_for (nL := 4) (nP B) (fun k u => u = B) (fun k _ => [(0, .ref y), (1, .int d), (2, .int (sOut B d k)), (3, .int (nI k))]) 0 (Nat.zero_le _) rfl hH hS hl_1 ?_ ?_
  · intro u H locs ls hu hH hS hl
    rw [hu] at hH
    refine lv_iload_n hx hb dX6_out_4 rfl (lv_at hl 3 rfl) ?_
    refine lv_aload_n hx hb dX6_out_5 rfl (lv_at hl 0 rfl) ?_
    refine m_num (f := 1) (v := (B 1 0)) (by unfold mNum; decide) hx hb hts hi6 hown hA hH (hts (.fieldLink RX6 87 "ParoleCardsModel" "people" "I") (by decide +kernel)) rfl dX6_out_6 ?_
    refine lv_icmp_ge (tgt := 51) hx hb dX6_out_9 (by decide) (fun c_2 => ?_) (fun c_2 => absurd (by rw [hinv.1.2]; exact nI_le (Nat.le_refl _) (by have := hinv.1.1; omega)) c_2)
    refine lv_iload_n hx hb dX6_out_51 rfl (lv_at hl 2 rfl) ?_
    exact z_iret hx hb hr hlocks hH hS (by exact ⟨rfl, rfl⟩) (by decide) (by decide) dX6_out_52
  · intro k hk ih u H locs ls hu hH hS hl
    rw [hu] at hH
    refine lv_iload_n hx hb dX6_out_4 rfl (lv_at hl 3 rfl) ?_
    refine lv_aload_n hx hb dX6_out_5 rfl (lv_at hl 0 rfl) ?_
    refine m_num (f := 1) (v := (B 1 0)) (by unfold mNum; decide) hx hb hts hi6 hown hA hH (hts (.fieldLink RX6 87 "ParoleCardsModel" "people" "I") (by decide +kernel)) rfl dX6_out_6 ?_
    refine lv_icmp_ge (tgt := 51) hx hb dX6_out_9 (by decide) (fun c_3 => absurd c_3 (by rw [hinv.1.2]; exact nI_ge hk (by have := hinv.1.1; omega))) (fun c_3 => ?_)
    refine lv_iload_n hx hb dX6_out_12 rfl (lv_at hl 2 rfl) ?_
    refine lv_aload_n hx hb dX6_out_13 rfl (lv_at hl 0 rfl) ?_
    refine m_arr (f := 11) (by unfold mArr; decide) hx hb hts hi6 hown hA hH (hts (.fieldLink RX6 38 "ParoleCardsModel" "on" "[I") (by decide +kernel)) rfl dX6_out_14 ?_
    refine lv_iload_n hx hb dX6_out_17 rfl (lv_at hl 3 rfl) ?_
    refine m_iald (f := 11) (v := (B 11 k)) (by unfold mArr; decide) rfl hx hb hA hH k rfl (by rw [show mLen 11 = 10 from rfl]; have := hinv.1.1; omega) rfl dX6_out_18 ?_
    refine lv_iconst (v := (-1)) hx hb dX6_out_19 (by decide) ?_
    refine lv_icmp_eq (tgt := 42) hx hb dX6_out_20 (by decide) (fun c_4 => ?_) (fun c_4 => ?_)
    · refine lv_iconst (v := 0) hx hb dX6_out_42 (by decide) ?_
      refine lv_iadd hx hb dX6_out_43 ?_
      refine lv_istore_n (lv' := [(2, .int ((sOut B d k) + 0)), (0, .ref y), (1, .int d), (3, .int (nI k))]) hx hb dX6_out_44 rfl hl (by decide) rfl (fun ls hl => ?_)
      refine lv_iinc (v := ((nI k) + 1)) (lv' := [(3, .int ((nI k) + 1)), (2, .int ((sOut B d k) + 0)), (0, .ref y), (1, .int d)]) hx hb dX6_out_45 hl (k := 3) rfl rfl (by decide) rfl (fun ls hl => ?_)
      refine lv_goto (tgt := 4) hx hb dX6_out_48 (by decide) ?_
      have hl_5 : lv_has ls 4 [(0, .ref y), (1, .int d), (2, .int ((sOut B d k) + 0)), (3, .int ((nI k) + 1))] := lv_sub hl [2, 3, 1, 0] rfl
      rw [show (((sOut B d k) + 0) : Int32) = (sOut B d (k + 1)) from (by simp [sOut, c_3, Int32.not_le.mp c_3, c_4])] at hl_5
      rw [show (((nI k) + 1) : Int32) = (nI (k + 1)) from (nI_1 _)] at hl_5
      have hl_5 : lv_has ls 4 [(0, .ref y), (1, .int d), (2, .int (sOut B d (k + 1))), (3, .int (nI (k + 1)))] := hl_5
      exact ih _ _ _ _ rfl hH hS hl_5
    · refine lv_aload_n hx hb dX6_out_23 rfl (lv_at hl 0 rfl) ?_
      refine m_arr (f := 24) (by unfold mArr; decide) hx hb hts hi6 hown hA hH (hts (.fieldLink RX6 74 "ParoleCardsModel" "kind" "[I") (by decide +kernel)) rfl dX6_out_24 ?_
      refine lv_aload_n hx hb dX6_out_27 rfl (lv_at hl 0 rfl) ?_
      refine m_arr (f := 11) (by unfold mArr; decide) hx hb hts hi6 hown hA hH (hts (.fieldLink RX6 38 "ParoleCardsModel" "on" "[I") (by decide +kernel)) rfl dX6_out_28 ?_
      refine lv_iload_n hx hb dX6_out_31 rfl (lv_at hl 3 rfl) ?_
      refine m_iald (f := 11) (v := (B 11 k)) (by unfold mArr; decide) rfl hx hb hA hH k rfl (by rw [show mLen 11 = 10 from rfl]; have := hinv.1.1; omega) rfl dX6_out_32 ?_
      refine m_iald (f := 24) (v := (B 24 (ox B k))) (by unfold mArr; decide) rfl hx hb hA hH (ox B k) ((hinv.2.2.1 k hk).2.2.2.2.resolve_left c_4).1 (by rw [show mLen 24 = 8 from rfl]; have h1 := ((hinv.2.2.1 k hk).2.2.2.2.resolve_left c_4).2; have h2 := hinv.2.1.1; omega) rfl dX6_out_33 ?_
      refine lv_iload_n hx hb dX6_out_34 rfl (lv_at hl 1 rfl) ?_
      refine lv_icmp_ne (tgt := 42) hx hb dX6_out_35 (by decide) (fun c_6 => ?_) (fun c_6 => ?_)
      · refine lv_iconst (v := 0) hx hb dX6_out_42 (by decide) ?_
        refine lv_iadd hx hb dX6_out_43 ?_
        refine lv_istore_n (lv' := [(2, .int ((sOut B d k) + 0)), (0, .ref y), (1, .int d), (3, .int (nI k))]) hx hb dX6_out_44 rfl hl (by decide) rfl (fun ls hl => ?_)
        refine lv_iinc (v := ((nI k) + 1)) (lv' := [(3, .int ((nI k) + 1)), (2, .int ((sOut B d k) + 0)), (0, .ref y), (1, .int d)]) hx hb dX6_out_45 hl (k := 3) rfl rfl (by decide) rfl (fun ls hl => ?_)
        refine lv_goto (tgt := 4) hx hb dX6_out_48 (by decide) ?_
        have hl_7 : lv_has ls 4 [(0, .ref y), (1, .int d), (2, .int ((sOut B d k) + 0)), (3, .int ((nI k) + 1))] := lv_sub hl [2, 3, 1, 0] rfl
        rw [show (((sOut B d k) + 0) : Int32) = (sOut B d (k + 1)) from (by simp [sOut, c_3, Int32.not_le.mp c_3, c_4, c_6])] at hl_7
        rw [show (((nI k) + 1) : Int32) = (nI (k + 1)) from (nI_1 _)] at hl_7
        have hl_7 : lv_has ls 4 [(0, .ref y), (1, .int d), (2, .int (sOut B d (k + 1))), (3, .int (nI (k + 1)))] := hl_7
        exact ih _ _ _ _ rfl hH hS hl_7
      · refine lv_iconst (v := 1) hx hb dX6_out_38 (by decide) ?_
        refine lv_goto (tgt := 43) hx hb dX6_out_39 (by decide) ?_
        refine lv_iadd hx hb dX6_out_43 ?_
        refine lv_istore_n (lv' := [(2, .int ((sOut B d k) + 1)), (0, .ref y), (1, .int d), (3, .int (nI k))]) hx hb dX6_out_44 rfl hl (by decide) rfl (fun ls hl => ?_)
        refine lv_iinc (v := ((nI k) + 1)) (lv' := [(3, .int ((nI k) + 1)), (2, .int ((sOut B d k) + 1)), (0, .ref y), (1, .int d)]) hx hb dX6_out_45 hl (k := 3) rfl rfl (by decide) rfl (fun ls hl => ?_)
        refine lv_goto (tgt := 4) hx hb dX6_out_48 (by decide) ?_
        have hl_8 : lv_has ls 4 [(0, .ref y), (1, .int d), (2, .int ((sOut B d k) + 1)), (3, .int ((nI k) + 1))] := lv_sub hl [2, 3, 1, 0] rfl
        rw [show (((sOut B d k) + 1) : Int32) = (sOut B d (k + 1)) from (by simp [sOut, c_3, Int32.not_le.mp c_3, c_4, c_6])] at hl_8
        rw [show (((nI k) + 1) : Int32) = (nI (k + 1)) from (nI_1 _)] at hl_8
        have hl_8 : lv_has ls 4 [(0, .ref y), (1, .int d), (2, .int (sOut B d (k + 1))), (3, .int (nI (k + 1)))] := hl_8
        exact ih _ _ _ _ rfl hH hS hl_8
set_option maxHeartbeats 4000000 in
set_option maxRecDepth 100000 in
theorem c6_rest (l : Launch) (D : va_G) (cy : Nat → ClassId) (base : Nat) (w0 : zW) (y : Nat) (r : Nat → Nat) (B : Nat → Nat → Int32) (i : Nat) (hi : i < 10) (h10 : B 10 i = nI (oc B i)) (h50 : oc B i ≤ 50) : Met l yX6_rest wsX6_rest ({ frames := 0, cells := 0, slots := 0, locals := 0 }) (zPc D cy base (mH D cy base w0 y r) [.ref y, .int (nI i)] B) (zQi base (mH D cy base w0 y r) (fun (r0 : Int32) (u0 : Nat → Nat → Int32) => r0 = (sRest B i) ∧ u0 = B)) 0 0 (fun q => base ≤ q) := by
  refine Met.ofW (cc := cX6_rest) (maxL := 4) (ret := (some .int)) (by decide) rfl ?_
  intro p e s m args below meth c s₁ B9 hml hv
  obtain ⟨rfl, hA, hH⟩ := hv
  have hx := B9.exec
  have hb := B9.bytes
  have hr := B9.returns
  have hts := atoms_spec (ws := wsX6_rest) B9.pre
  have hown : s.vm.findClass RX6 = some m.cls := findClass_of_methodNamed B9.named
  have hlocks := B9.notSynchronized
  have hi6 : ∀ w ∈ wsX60, w ∈ wsX6_rest := by decide +kernel
  have hS : va_S (fun q : Nat => base ≤ q) s.heap s.heap [] := va_S.rf
  have hl := lv_entry ([.ref y, .int (nI i)]) (n := 4) (Nat.le_of_ble_eq_true rfl)
  rw [lg_entry_eq]
  generalize (lg_sl ([.ref y, .int (nI i)]) ++ List.replicate (4 - (lg_sl ([.ref y, .int (nI i)])).length) Slot.unset).toArray = ls at hl ⊢
  have hl : lv_has ls 4 [(0, .ref y), (1, .int (nI i))] := hl
  refine lv_bipush (v := 20) hx hb dX6_rest_0 (by decide) ?_
  refine lv_aload_n hx hb dX6_rest_2 rfl (lv_at hl 0 rfl) ?_
  refine m_arr (f := 6) (by unfold mArr; decide) hx hb hts hi6 hown hA hH (hts (.fieldLink RX6 23 "ParoleCardsModel" "regime" "[I") (by decide +kernel)) rfl dX6_rest_3 ?_
  refine lv_iload_n hx hb dX6_rest_6 rfl (lv_at hl 1 rfl) ?_
  refine m_iald (f := 6) (v := (B 6 i)) (by unfold mArr; decide) rfl hx hb hA hH i rfl (by rw [show mLen 6 = 10 from rfl]; omega) rfl dX6_rest_7 ?_
  refine lv_imul hx hb dX6_rest_8 ?_
  refine lv_bipush (v := 10) hx hb dX6_rest_9 (by decide) ?_
  refine lv_iadd hx hb dX6_rest_11 ?_
  refine lv_istore_n (lv' := [(2, .int ((20 * (B 6 i)) + 10)), (0, .ref y), (1, .int (nI i))]) hx hb dX6_rest_12 rfl hl (by decide) rfl (fun ls hl => ?_)
  refine lv_bipush (v := 50) hx hb dX6_rest_13 (by decide) ?_
  refine lv_iload_n hx hb dX6_rest_15 rfl (lv_at hl 2 rfl) ?_
  refine lv_imul hx hb dX6_rest_16 ?_
  refine lv_istore_n (lv' := [(3, .int (50 * (nI i))), (2, .int ((20 * (B 6 i)) + 10)), (0, .ref y), (1, .int (nI i))]) hx hb dX6_rest_17 rfl hl (by decide) rfl (fun ls hl => ?_)
  have hl_1 : lv_has ls 4 [(0, .ref y), (1, .int (nI i)), (2, .int ((20 * (B 6 i)) + 10)), (3, .int (50 * (nI i)))] := lv_sub hl [2, 3, 1, 0] rfl
  rw [show ((50 * (nI i)) : Int32) = (nI (50 * i + 0)) from (by rw [show (50 : Int32) = nI 50 from rfl, pk_mul]; rfl)] at hl_1
  have hl_1 : lv_has ls 4 [(0, .ref y), (1, .int (nI i)), (2, .int (sMost B i 0)), (3, .int (nI (50 * i + 0)))] := hl_1
  refine z_for (nL := 4) (oc B i) (fun k u => u = B) (fun k _ => [(0, .ref y), (1, .int (nI i)), (2, .int (sMost B i k)), (3, .int (nI (50 * i + k)))]) 0 (Nat.zero_le _) rfl hH hS hl_1 ?_ ?_
  · intro u H locs ls hu hH hS hl
    rw [hu] at hH
    refine lv_iload_n hx hb dX6_rest_18 rfl (lv_at hl 3 rfl) ?_
    refine lv_bipush (v := 50) hx hb dX6_rest_19 (by decide) ?_
    refine lv_iload_n hx hb dX6_rest_21 rfl (lv_at hl 1 rfl) ?_
    refine lv_imul hx hb dX6_rest_22 ?_
    refine lv_aload_n hx hb dX6_rest_23 rfl (lv_at hl 0 rfl) ?_
    refine m_arr (f := 10) (by unfold mArr; decide) hx hb hts hi6 hown hA hH (hts (.fieldLink RX6 35 "ParoleCardsModel" "offences" "[I") (by decide +kernel)) rfl dX6_rest_24 ?_
    refine lv_iload_n hx hb dX6_rest_27 rfl (lv_at hl 1 rfl) ?_
    refine m_iald (f := 10) (v := (B 10 i)) (by unfold mArr; decide) rfl hx hb hA hH i rfl (by rw [show mLen 10 = 10 from rfl]; omega) rfl dX6_rest_28 ?_
    refine lv_iadd hx hb dX6_rest_29 ?_
    refine lv_icmp_ge (tgt := 72) hx hb dX6_rest_30 (by decide) (fun c_2 => ?_) (fun c_2 => absurd (by rw [(show (50 * nI i) + (B 10 i) = nI (50 * i + oc B i) by rw [h10, show (50 : Int32) = nI 50 from rfl, pk_mul, nI_add])]; exact nI_le (Nat.le_refl _) (by omega)) c_2)
    refine lv_aload_n hx hb dX6_rest_72 rfl (lv_at hl 0 rfl) ?_
    refine m_arr (f := 15) (by unfold mArr; decide) hx hb hts hi6 hown hA hH (hts (.fieldLink RX6 50 "ParoleCardsModel" "span" "[I") (by decide +kernel)) rfl dX6_rest_73 ?_
    refine lv_iload_n hx hb dX6_rest_76 rfl (lv_at hl 1 rfl) ?_
    refine m_iald (f := 15) (v := (B 15 i)) (by unfold mArr; decide) rfl hx hb hA hH i rfl (by rw [show mLen 15 = 10 from rfl]; omega) rfl dX6_rest_77 ?_
    refine lv_aload_n hx hb dX6_rest_78 rfl (lv_at hl 0 rfl) ?_
    refine m_num (f := 0) (v := (B 0 0)) (by unfold mNum; decide) hx hb hts hi6 hown hA hH (hts (.fieldLink RX6 101 "ParoleCardsModel" "today" "I") (by decide +kernel)) rfl dX6_rest_79 ?_
    refine lv_bipush (v := 7) hx hb dX6_rest_82 (by decide) ?_
    refine lv_idiv hx hb dX6_rest_84 (by decide) ?_
    refine lv_icmp_ne (tgt := 97) hx hb dX6_rest_85 (by decide) (fun c_3 => ?_) (fun c_3 => ?_)
    · refine lv_iconst (v := 0) hx hb dX6_rest_97 (by decide) ?_
      refine lv_istore_n (lv' := [(3, .int 0), (0, .ref y), (1, .int (nI i)), (2, .int (sMost B i (oc B i)))]) hx hb dX6_rest_98 rfl hl (by decide) rfl (fun ls hl => ?_)
      refine lv_iload_n hx hb dX6_rest_99 rfl (lv_at hl 3 rfl) ?_
      refine lv_if_ge (tgt := 107) hx hb dX6_rest_100 (by decide) (fun c_4 => ?_) (fun c_4 => ?_)
      · refine lv_iload_n hx hb dX6_rest_107 rfl (lv_at hl 3 rfl) ?_
        refine lv_istore_n (lv' := [(2, .int (sMost B i (oc B i))), (3, .int 0), (0, .ref y), (1, .int (nI i))]) hx hb dX6_rest_108 rfl hl (by decide) rfl (fun ls hl => ?_)
        refine lv_aload_n hx hb dX6_rest_109 rfl (lv_at hl 2 rfl) ?_
        refine m_arr (f := 2) (by unfold mArr; decide) hx hb hts hi6 hown hA hH (hts (.fieldLink RX6 7 "ParoleCardsModel" "isOut" "[Z") (by decide +kernel)) rfl dX6_rest_110 ?_
        refine lv_iload_n hx hb dX6_rest_113 rfl (lv_at hl 3 rfl) ?_
        refine m_zald (f := 2) (v := (B 2 i)) (by unfold mArr; decide) rfl hx hb hA hH i rfl (by rw [show mLen 2 = 10 from rfl]; omega) rfl dX6_rest_114 ?_
        refine lv_if_ne (tgt := 123) hx hb dX6_rest_115 (by decide) (fun c_5 => ?_) (fun c_5 => ?_)
        · refine lv_iconst (v := 0) hx hb dX6_rest_123 (by decide) ?_
          refine lv_goto (tgt := 130) hx hb dX6_rest_124 (by decide) ?_
          exact z_iret hx hb hr hlocks hH hS ⟨by first | contradiction | (simp [sRest, sTop, sBought, c_2, Int32.not_lt.mpr c_2, c_3, c_4, Int32.not_lt.mpr c_4, c_5]; done), rfl⟩ (by decide) (by decide) dX6_rest_130
        · refine lv_iload_n hx hb dX6_rest_118 rfl (lv_at hl 0 rfl) ?_
          refine lv_iload_n hx hb dX6_rest_119 rfl (lv_at hl 1 rfl) ?_
          refine lv_icmp_ge (tgt := 127) hx hb dX6_rest_120 (by decide) (fun c_6 => ?_) (fun c_6 => ?_)
          · refine lv_iload_n hx hb dX6_rest_127 rfl (lv_at hl 0 rfl) ?_
            refine lv_iload_n hx hb dX6_rest_128 rfl (lv_at hl 1 rfl) ?_
            refine lv_isub hx hb dX6_rest_129 ?_
            exact z_iret hx hb hr hlocks hH hS ⟨by first | contradiction | (simp [sRest, sTop, sBought, c_2, Int32.not_lt.mpr c_2, c_3, c_4, Int32.not_lt.mpr c_4, c_5, c_6, Int32.not_lt.mpr c_6]; done), rfl⟩ (by decide) (by decide) dX6_rest_130
          · refine lv_iconst (v := 0) hx hb dX6_rest_123 (by decide) ?_
            refine lv_goto (tgt := 130) hx hb dX6_rest_124 (by decide) ?_
            exact z_iret hx hb hr hlocks hH hS ⟨by first | contradiction | (simp [sRest, sTop, sBought, c_2, Int32.not_lt.mpr c_2, c_3, c_4, Int32.not_lt.mpr c_4, c_5, c_6, Int32.not_le.mp c_6]; done), rfl⟩ (by decide) (by decide) dX6_rest_130
      · refine lv_iconst (v := 0) hx hb dX6_rest_103 (by decide) ?_
        refine lv_goto (tgt := 108) hx hb dX6_rest_104 (by decide) ?_
        refine lv_istore_n (lv' := [(2, .int 0), (3, .int 0), (0, .ref y), (1, .int (nI i))]) hx hb dX6_rest_108 rfl hl (by decide) rfl (fun ls hl => ?_)
        refine lv_aload_n hx hb dX6_rest_109 rfl (lv_at hl 2 rfl) ?_
        refine m_arr (f := 2) (by unfold mArr; decide) hx hb hts hi6 hown hA hH (hts (.fieldLink RX6 7 "ParoleCardsModel" "isOut" "[Z") (by decide +kernel)) rfl dX6_rest_110 ?_
        refine lv_iload_n hx hb dX6_rest_113 rfl (lv_at hl 3 rfl) ?_
        refine m_zald (f := 2) (v := (B 2 i)) (by unfold mArr; decide) rfl hx hb hA hH i rfl (by rw [show mLen 2 = 10 from rfl]; omega) rfl dX6_rest_114 ?_
        refine lv_if_ne (tgt := 123) hx hb dX6_rest_115 (by decide) (fun c_7 => ?_) (fun c_7 => ?_)
        · refine lv_iconst (v := 0) hx hb dX6_rest_123 (by decide) ?_
          refine lv_goto (tgt := 130) hx hb dX6_rest_124 (by decide) ?_
          exact z_iret hx hb hr hlocks hH hS ⟨by first | contradiction | (simp [sRest, sTop, sBought, c_2, Int32.not_lt.mpr c_2, c_3, c_4, Int32.not_le.mp c_4, c_7]; done), rfl⟩ (by decide) (by decide) dX6_rest_130
        · refine lv_iload_n hx hb dX6_rest_118 rfl (lv_at hl 0 rfl) ?_
          refine lv_iload_n hx hb dX6_rest_119 rfl (lv_at hl 1 rfl) ?_
          refine lv_icmp_ge (tgt := 127) hx hb dX6_rest_120 (by decide) (fun _ => ?_) (fun c_8 => absurd c_8 (by decide))
          refine lv_iload_n hx hb dX6_rest_127 rfl (lv_at hl 0 rfl) ?_
          refine lv_iload_n hx hb dX6_rest_128 rfl (lv_at hl 1 rfl) ?_
          refine lv_isub hx hb dX6_rest_129 ?_
          exact z_iret hx hb hr hlocks hH hS ⟨by first | contradiction | (simp [sRest, sTop, sBought, c_2, Int32.not_lt.mpr c_2, c_3, c_4, Int32.not_le.mp c_4, c_7]; done), rfl⟩ (by decide) (by decide) dX6_rest_130
    · refine lv_aload_n hx hb dX6_rest_88 rfl (lv_at hl 0 rfl) ?_
      refine m_arr (f := 16) (by unfold mArr; decide) hx hb hts hi6 hown hA hH (hts (.fieldLink RX6 53 "ParoleCardsModel" "bought" "[I") (by decide +kernel)) rfl dX6_rest_89 ?_
      refine lv_iload_n hx hb dX6_rest_92 rfl (lv_at hl 1 rfl) ?_
      refine m_iald (f := 16) (v := (B 16 i)) (by unfold mArr; decide) rfl hx hb hA hH i rfl (by rw [show mLen 16 = 10 from rfl]; omega) rfl dX6_rest_93 ?_
      refine lv_goto (tgt := 98) hx hb dX6_rest_94 (by decide) ?_
      refine lv_istore_n (lv' := [(3, .int (B 16 i)), (0, .ref y), (1, .int (nI i)), (2, .int (sMost B i (oc B i)))]) hx hb dX6_rest_98 rfl hl (by decide) rfl (fun ls hl => ?_)
      refine lv_iload_n hx hb dX6_rest_99 rfl (lv_at hl 3 rfl) ?_
      refine lv_if_ge (tgt := 107) hx hb dX6_rest_100 (by decide) (fun c_9 => ?_) (fun c_9 => ?_)
      · refine lv_iload_n hx hb dX6_rest_107 rfl (lv_at hl 3 rfl) ?_
        refine lv_istore_n (lv' := [(2, .int (sMost B i (oc B i))), (3, .int (B 16 i)), (0, .ref y), (1, .int (nI i))]) hx hb dX6_rest_108 rfl hl (by decide) rfl (fun ls hl => ?_)
        refine lv_aload_n hx hb dX6_rest_109 rfl (lv_at hl 2 rfl) ?_
        refine m_arr (f := 2) (by unfold mArr; decide) hx hb hts hi6 hown hA hH (hts (.fieldLink RX6 7 "ParoleCardsModel" "isOut" "[Z") (by decide +kernel)) rfl dX6_rest_110 ?_
        refine lv_iload_n hx hb dX6_rest_113 rfl (lv_at hl 3 rfl) ?_
        refine m_zald (f := 2) (v := (B 2 i)) (by unfold mArr; decide) rfl hx hb hA hH i rfl (by rw [show mLen 2 = 10 from rfl]; omega) rfl dX6_rest_114 ?_
        refine lv_if_ne (tgt := 123) hx hb dX6_rest_115 (by decide) (fun c_10 => ?_) (fun c_10 => ?_)
        · refine lv_iconst (v := 0) hx hb dX6_rest_123 (by decide) ?_
          refine lv_goto (tgt := 130) hx hb dX6_rest_124 (by decide) ?_
          exact z_iret hx hb hr hlocks hH hS ⟨by first | contradiction | (simp [sRest, sTop, sBought, c_2, Int32.not_lt.mpr c_2, c_3, c_9, Int32.not_lt.mpr c_9, c_10]; done), rfl⟩ (by decide) (by decide) dX6_rest_130
        · refine lv_iload_n hx hb dX6_rest_118 rfl (lv_at hl 0 rfl) ?_
          refine lv_iload_n hx hb dX6_rest_119 rfl (lv_at hl 1 rfl) ?_
          refine lv_icmp_ge (tgt := 127) hx hb dX6_rest_120 (by decide) (fun c_11 => ?_) (fun c_11 => ?_)
          · refine lv_iload_n hx hb dX6_rest_127 rfl (lv_at hl 0 rfl) ?_
            refine lv_iload_n hx hb dX6_rest_128 rfl (lv_at hl 1 rfl) ?_
            refine lv_isub hx hb dX6_rest_129 ?_
            exact z_iret hx hb hr hlocks hH hS ⟨by first | contradiction | (simp [sRest, sTop, sBought, c_2, Int32.not_lt.mpr c_2, c_3, c_9, Int32.not_lt.mpr c_9, c_10, c_11, Int32.not_lt.mpr c_11]; done), rfl⟩ (by decide) (by decide) dX6_rest_130
          · refine lv_iconst (v := 0) hx hb dX6_rest_123 (by decide) ?_
            refine lv_goto (tgt := 130) hx hb dX6_rest_124 (by decide) ?_
            exact z_iret hx hb hr hlocks hH hS ⟨by first | contradiction | (simp [sRest, sTop, sBought, c_2, Int32.not_lt.mpr c_2, c_3, c_9, Int32.not_lt.mpr c_9, c_10, c_11, Int32.not_le.mp c_11]; done), rfl⟩ (by decide) (by decide) dX6_rest_130
      · refine lv_iconst (v := 0) hx hb dX6_rest_103 (by decide) ?_
        refine lv_goto (tgt := 108) hx hb dX6_rest_104 (by decide) ?_
        refine lv_istore_n (lv' := [(2, .int 0), (3, .int (B 16 i)), (0, .ref y), (1, .int (nI i))]) hx hb dX6_rest_108 rfl hl (by decide) rfl (fun ls hl => ?_)
        refine lv_aload_n hx hb dX6_rest_109 rfl (lv_at hl 2 rfl) ?_
        refine m_arr (f := 2) (by unfold mArr; decide) hx hb hts hi6 hown hA hH (hts (.fieldLink RX6 7 "ParoleCardsModel" "isOut" "[Z") (by decide +kernel)) rfl dX6_rest_110 ?_
        refine lv_iload_n hx hb dX6_rest_113 rfl (lv_at hl 3 rfl) ?_
        refine m_zald (f := 2) (v := (B 2 i)) (by unfold mArr; decide) rfl hx hb hA hH i rfl (by rw [show mLen 2 = 10 from rfl]; omega) rfl dX6_rest_114 ?_
        refine lv_if_ne (tgt := 123) hx hb dX6_rest_115 (by decide) (fun c_12 => ?_) (fun c_12 => ?_)
        · refine lv_iconst (v := 0) hx hb dX6_rest_123 (by decide) ?_
          refine lv_goto (tgt := 130) hx hb dX6_rest_124 (by decide) ?_
          exact z_iret hx hb hr hlocks hH hS ⟨by first | contradiction | (simp [sRest, sTop, sBought, c_2, Int32.not_lt.mpr c_2, c_3, c_9, Int32.not_le.mp c_9, c_12]; done), rfl⟩ (by decide) (by decide) dX6_rest_130
        · refine lv_iload_n hx hb dX6_rest_118 rfl (lv_at hl 0 rfl) ?_
          refine lv_iload_n hx hb dX6_rest_119 rfl (lv_at hl 1 rfl) ?_
          refine lv_icmp_ge (tgt := 127) hx hb dX6_rest_120 (by decide) (fun c_13 => ?_) (fun c_13 => ?_)
          · refine lv_iload_n hx hb dX6_rest_127 rfl (lv_at hl 0 rfl) ?_
            refine lv_iload_n hx hb dX6_rest_128 rfl (lv_at hl 1 rfl) ?_
            refine lv_isub hx hb dX6_rest_129 ?_
            exact z_iret hx hb hr hlocks hH hS ⟨by first | contradiction | (simp [sRest, sTop, sBought, c_2, Int32.not_lt.mpr c_2, c_3, c_9, Int32.not_le.mp c_9, c_12, c_13, Int32.not_lt.mpr c_13]; done), rfl⟩ (by decide) (by decide) dX6_rest_130
          · refine lv_iconst (v := 0) hx hb dX6_rest_123 (by decide) ?_
            refine lv_goto (tgt := 130) hx hb dX6_rest_124 (by decide) ?_
            exact z_iret hx hb hr hlocks hH hS ⟨by first | contradiction | (simp [sRest, sTop, sBought, c_2, Int32.not_lt.mpr c_2, c_3, c_9, Int32.not_le.mp c_9, c_12, c_13, Int32.not_le.mp c_13]; done), rfl⟩ (by decide) (by decide) dX6_rest_130
  · intro k hk ih u H locs ls hu hH hS hl
    rw [hu] at hH
    refine lv_iload_n hx hb dX6_rest_18 rfl (lv_at hl 3 rfl) ?_
    refine lv_bipush (v := 50) hx hb dX6_rest_19 (by decide) ?_
    refine lv_iload_n hx hb dX6_rest_21 rfl (lv_at hl 1 rfl) ?_
    refine lv_imul hx hb dX6_rest_22 ?_
    refine lv_aload_n hx hb dX6_rest_23 rfl (lv_at hl 0 rfl) ?_
    refine m_arr (f := 10) (by unfold mArr; decide) hx hb hts hi6 hown hA hH (hts (.fieldLink RX6 35 "ParoleCardsModel" "offences" "[I") (by decide +kernel)) rfl dX6_rest_24 ?_
    refine lv_iload_n hx hb dX6_rest_27 rfl (lv_at hl 1 rfl) ?_
    refine m_iald (f := 10) (v := (B 10 i)) (by unfold mArr; decide) rfl hx hb hA hH i rfl (by rw [show mLen 10 = 10 from rfl]; omega) rfl dX6_rest_28 ?_
    refine lv_iadd hx hb dX6_rest_29 ?_
    refine lv_icmp_ge (tgt := 72) hx hb dX6_rest_30 (by decide) (fun c_14 => absurd c_14 (by rw [(show (50 * nI i) + (B 10 i) = nI (50 * i + oc B i) by rw [h10, show (50 : Int32) = nI 50 from rfl, pk_mul, nI_add])]; exact nI_ge (by omega) (by omega))) (fun c_14 => ?_)
    refine lv_iload_n hx hb dX6_rest_33 rfl (lv_at hl 2 rfl) ?_
    refine lv_aload_n hx hb dX6_rest_34 rfl (lv_at hl 0 rfl) ?_
    refine m_arr (f := 20) (by unfold mArr; decide) hx hb hts hi6 hown hA hH (hts (.fieldLink RX6 65 "ParoleCardsModel" "isAppealed" "[Z") (by decide +kernel)) rfl dX6_rest_35 ?_
    refine lv_iload_n hx hb dX6_rest_38 rfl (lv_at hl 3 rfl) ?_
    refine m_zald (f := 20) (v := (B 20 (50 * i + k))) (by unfold mArr; decide) rfl hx hb hA hH (50 * i + k) rfl (by rw [show mLen 20 = 500 from rfl]; omega) rfl dX6_rest_39 ?_
    refine lv_if_ne (tgt := 63) hx hb dX6_rest_40 (by decide) (fun c_15 => ?_) (fun c_15 => ?_)
    · refine lv_iconst (v := 0) hx hb dX6_rest_63 (by decide) ?_
      refine lv_isub hx hb dX6_rest_64 ?_
      refine lv_istore_n (lv' := [(2, .int ((sMost B i k) - 0)), (0, .ref y), (1, .int (nI i)), (3, .int (nI (50 * i + k)))]) hx hb dX6_rest_65 rfl hl (by decide) rfl (fun ls hl => ?_)
      refine lv_iinc (v := ((nI (50 * i + k)) + 1)) (lv' := [(3, .int ((nI (50 * i + k)) + 1)), (2, .int ((sMost B i k) - 0)), (0, .ref y), (1, .int (nI i))]) hx hb dX6_rest_66 hl (k := 3) rfl rfl (by decide) rfl (fun ls hl => ?_)
      refine lv_goto (tgt := 18) hx hb dX6_rest_69 (by decide) ?_
      have hl_16 : lv_has ls 4 [(0, .ref y), (1, .int (nI i)), (2, .int ((sMost B i k) - 0)), (3, .int ((nI (50 * i + k)) + 1))] := lv_sub hl [2, 3, 1, 0] rfl
      rw [show (((sMost B i k) - 0) : Int32) = (sMost B i (k + 1)) from (by simp [sMost, c_14, Int32.not_le.mp c_14, c_15])] at hl_16
      rw [show (((nI (50 * i + k)) + 1) : Int32) = (nI (50 * i + (k + 1))) from (nI_1 _)] at hl_16
      have hl_16 : lv_has ls 4 [(0, .ref y), (1, .int (nI i)), (2, .int (sMost B i (k + 1))), (3, .int (nI (50 * i + (k + 1))))] := hl_16
      exact ih _ _ _ _ rfl hH hS hl_16
    · refine lv_aload_n hx hb dX6_rest_43 rfl (lv_at hl 0 rfl) ?_
      refine m_num (f := 0) (v := (B 0 0)) (by unfold mNum; decide) hx hb hts hi6 hown hA hH (hts (.fieldLink RX6 101 "ParoleCardsModel" "today" "I") (by decide +kernel)) rfl dX6_rest_44 ?_
      refine lv_aload_n hx hb dX6_rest_47 rfl (lv_at hl 0 rfl) ?_
      refine m_arr (f := 18) (by unfold mArr; decide) hx hb hts hi6 hown hA hH (hts (.fieldLink RX6 59 "ParoleCardsModel" "lostOn" "[I") (by decide +kernel)) rfl dX6_rest_48 ?_
      refine lv_iload_n hx hb dX6_rest_51 rfl (lv_at hl 3 rfl) ?_
      refine m_iald (f := 18) (v := (B 18 (50 * i + k))) (by unfold mArr; decide) rfl hx hb hA hH (50 * i + k) rfl (by rw [show mLen 18 = 500 from rfl]; omega) rfl dX6_rest_52 ?_
      refine lv_isub hx hb dX6_rest_53 ?_
      refine lv_bipush (v := 29) hx hb dX6_rest_54 (by decide) ?_
      refine lv_icmp_gt (tgt := 63) hx hb dX6_rest_56 (by decide) (fun c_17 => ?_) (fun c_17 => ?_)
      · refine lv_iconst (v := 0) hx hb dX6_rest_63 (by decide) ?_
        refine lv_isub hx hb dX6_rest_64 ?_
        refine lv_istore_n (lv' := [(2, .int ((sMost B i k) - 0)), (0, .ref y), (1, .int (nI i)), (3, .int (nI (50 * i + k)))]) hx hb dX6_rest_65 rfl hl (by decide) rfl (fun ls hl => ?_)
        refine lv_iinc (v := ((nI (50 * i + k)) + 1)) (lv' := [(3, .int ((nI (50 * i + k)) + 1)), (2, .int ((sMost B i k) - 0)), (0, .ref y), (1, .int (nI i))]) hx hb dX6_rest_66 hl (k := 3) rfl rfl (by decide) rfl (fun ls hl => ?_)
        refine lv_goto (tgt := 18) hx hb dX6_rest_69 (by decide) ?_
        have hl_18 : lv_has ls 4 [(0, .ref y), (1, .int (nI i)), (2, .int ((sMost B i k) - 0)), (3, .int ((nI (50 * i + k)) + 1))] := lv_sub hl [2, 3, 1, 0] rfl
        rw [show (((sMost B i k) - 0) : Int32) = (sMost B i (k + 1)) from (by simp [sMost, c_14, Int32.not_le.mp c_14, c_15, c_17, Int32.not_le.mpr c_17])] at hl_18
        rw [show (((nI (50 * i + k)) + 1) : Int32) = (nI (50 * i + (k + 1))) from (nI_1 _)] at hl_18
        have hl_18 : lv_has ls 4 [(0, .ref y), (1, .int (nI i)), (2, .int (sMost B i (k + 1))), (3, .int (nI (50 * i + (k + 1))))] := hl_18
        exact ih _ _ _ _ rfl hH hS hl_18
      · refine lv_iconst (v := 5) hx hb dX6_rest_59 (by decide) ?_
        refine lv_goto (tgt := 64) hx hb dX6_rest_60 (by decide) ?_
        refine lv_isub hx hb dX6_rest_64 ?_
        refine lv_istore_n (lv' := [(2, .int ((sMost B i k) - 5)), (0, .ref y), (1, .int (nI i)), (3, .int (nI (50 * i + k)))]) hx hb dX6_rest_65 rfl hl (by decide) rfl (fun ls hl => ?_)
        refine lv_iinc (v := ((nI (50 * i + k)) + 1)) (lv' := [(3, .int ((nI (50 * i + k)) + 1)), (2, .int ((sMost B i k) - 5)), (0, .ref y), (1, .int (nI i))]) hx hb dX6_rest_66 hl (k := 3) rfl rfl (by decide) rfl (fun ls hl => ?_)
        refine lv_goto (tgt := 18) hx hb dX6_rest_69 (by decide) ?_
        have hl_19 : lv_has ls 4 [(0, .ref y), (1, .int (nI i)), (2, .int ((sMost B i k) - 5)), (3, .int ((nI (50 * i + k)) + 1))] := lv_sub hl [2, 3, 1, 0] rfl
        rw [show (((sMost B i k) - 5) : Int32) = (sMost B i (k + 1)) from (by simp [sMost, c_14, Int32.not_le.mp c_14, c_15, c_17, Int32.not_lt.mp c_17])] at hl_19
        rw [show (((nI (50 * i + k)) + 1) : Int32) = (nI (50 * i + (k + 1))) from (nI_1 _)] at hl_19
        have hl_19 : lv_has ls 4 [(0, .ref y), (1, .int (nI i)), (2, .int (sMost B i (k + 1))), (3, .int (nI (50 * i + (k + 1))))] := hl_19
        exact ih _ _ _ _ rfl hH hS hl_19
set_option maxHeartbeats 4000000 in
set_option maxRecDepth 100000 in
theorem c6_works (l : Launch) (D : va_G) (cy : Nat → ClassId) (base : Nat) (w0 : zW) (y : Nat) (r : Nat → Nat) (B : Nat → Nat → Int32) (i : Nat) (hi : i < 10) (hox : B 11 i = -1 ∨ (B 11 i = nI (ox B i) ∧ ox B i < 8)) : Met l yX6_works wsX6_works ({ frames := 0, cells := 0, slots := 0, locals := 0 }) (zPc D cy base (mH D cy base w0 y r) [.ref y, .int (nI i)] B) (zQv base (mH D cy base w0 y r) (fun (u0 : Nat → Nat → Int32) => u0 = (sWork B i))) 0 0 (fun q => base ≤ q) := by
  refine Met.ofW (cc := cX6_works) (maxL := 5) (ret := none) (by decide) rfl ?_
  intro p e s m args below meth c s₁ B9 hml hv
  obtain ⟨rfl, hA, hH⟩ := hv
  have hx := B9.exec
  have hb := B9.bytes
  have hr := B9.returns
  have hts := atoms_spec (ws := wsX6_works) B9.pre
  have hown : s.vm.findClass RX6 = some m.cls := findClass_of_methodNamed B9.named
  have hlocks := B9.notSynchronized
  have hi6 : ∀ w ∈ wsX60, w ∈ wsX6_works := by decide +kernel
  have hS : va_S (fun q : Nat => base ≤ q) s.heap s.heap [] := va_S.rf
  have hl := lv_entry ([.ref y, .int (nI i)]) (n := 5) (Nat.le_of_ble_eq_true rfl)
  rw [lg_entry_eq]
  generalize (lg_sl ([.ref y, .int (nI i)]) ++ List.replicate (5 - (lg_sl ([.ref y, .int (nI i)])).length) Slot.unset).toArray = ls at hl ⊢
  have hl : lv_has ls 5 [(0, .ref y), (1, .int (nI i))] := hl
  refine lv_aload_n hx hb dX6_works_0 rfl (lv_at hl 0 rfl) ?_
  refine m_arr (f := 11) (by unfold mArr; decide) hx hb hts hi6 hown hA hH (hts (.fieldLink RX6 38 "ParoleCardsModel" "on" "[I") (by decide +kernel)) rfl dX6_works_1 ?_
  refine lv_iload_n hx hb dX6_works_4 rfl (lv_at hl 1 rfl) ?_
  refine m_iald (f := 11) (v := (B 11 i)) (by unfold mArr; decide) rfl hx hb hA hH i rfl (by rw [show mLen 11 = 10 from rfl]; omega) rfl dX6_works_5 ?_
  refine lv_istore_n (lv' := [(2, .int (B 11 i)), (0, .ref y), (1, .int (nI i))]) hx hb dX6_works_6 rfl hl (by decide) rfl (fun ls hl => ?_)
  refine lv_iload_n hx hb dX6_works_7 rfl (lv_at hl 0 rfl) ?_
  refine lv_iconst (v := (-1)) hx hb dX6_works_8 (by decide) ?_
  refine lv_icmp_eq (tgt := 21) hx hb dX6_works_9 (by decide) (fun c_1 => ?_) (fun c_1 => ?_)
  · exact z_vret hx hb hr hlocks hH hS (by simp [sWork, c_1]) (by decide) (by decide) dX6_works_21
  · refine lv_aload_n hx hb dX6_works_12 rfl (lv_at hl 1 rfl) ?_
    refine m_arr (f := 25) (by unfold mArr; decide) hx hb hts hi6 hown hA hH (hts (.fieldLink RX6 77 "ParoleCardsModel" "left" "[I") (by decide +kernel)) rfl dX6_works_13 ?_
    refine lv_iload_n hx hb dX6_works_16 rfl (lv_at hl 0 rfl) ?_
    refine m_iald (f := 25) (v := (B 25 (ox B i))) (by unfold mArr; decide) rfl hx hb hA hH (ox B i) (hox.resolve_left c_1).1 (hox.resolve_left c_1).2 rfl dX6_works_17 ?_
    refine lv_if_ne (tgt := 22) hx hb dX6_works_18 (by decide) (fun c_2 => ?_) (fun c_2 => ?_)
    · refine lv_aload_n hx hb dX6_works_22 rfl (lv_at hl 1 rfl) ?_
      refine m_arr (f := 25) (by unfold mArr; decide) hx hb hts hi6 hown hA hH (hts (.fieldLink RX6 77 "ParoleCardsModel" "left" "[I") (by decide +kernel)) rfl dX6_works_23 ?_
      refine lv_iload_n hx hb dX6_works_26 rfl (lv_at hl 0 rfl) ?_
      refine lv_dup2_11 hx hb dX6_works_27 rfl rfl ?_
      refine m_iald (f := 25) (v := (B 25 (ox B i))) (by unfold mArr; decide) rfl hx hb hA hH (ox B i) (hox.resolve_left c_1).1 (hox.resolve_left c_1).2 rfl dX6_works_28 ?_
      refine lv_iconst (v := 1) hx hb dX6_works_29 (by decide) ?_
      refine lv_isub hx hb dX6_works_30 ?_
      refine m_iast (f := 25) (by unfold mArr; decide) rfl hx hb hA hH hS (ox B i) (hox.resolve_left c_1).1 (hox.resolve_left c_1).2 dX6_works_31 (fun H locs hH hS => ?_)
      refine lv_aload_n hx hb dX6_works_32 rfl (lv_at hl 1 rfl) ?_
      refine m_arr (f := 7) (by unfold mArr; decide) hx hb hts hi6 hown hA hH (hts (.fieldLink RX6 26 "ParoleCardsModel" "worked" "[I") (by decide +kernel)) rfl dX6_works_33 ?_
      refine lv_iload_n hx hb dX6_works_36 rfl (lv_at hl 2 rfl) ?_
      refine lv_dup2_11 hx hb dX6_works_37 rfl rfl ?_
      refine m_iald (f := 7) (v := (B 7 i)) (by unfold mArr; decide) rfl hx hb hA hH i rfl (by rw [show mLen 7 = 10 from rfl]; omega) rfl dX6_works_38 ?_
      refine lv_iconst (v := 1) hx hb dX6_works_39 (by decide) ?_
      refine lv_iadd hx hb dX6_works_40 ?_
      refine m_iast (f := 7) (by unfold mArr; decide) rfl hx hb hA hH hS i rfl (by rw [show mLen 7 = 10 from rfl]; omega) dX6_works_41 (fun H locs hH hS => ?_)
      refine lv_aload_n hx hb dX6_works_42 rfl (lv_at hl 1 rfl) ?_
      refine m_arr (f := 26) (by unfold mArr; decide) hx hb hts hi6 hown hA hH (hts (.fieldLink RX6 80 "ParoleCardsModel" "wage" "[I") (by decide +kernel)) rfl dX6_works_43 ?_
      refine lv_iload_n hx hb dX6_works_46 rfl (lv_at hl 0 rfl) ?_
      refine m_iald (f := 26) (v := (B 26 (ox B i))) (by unfold mArr; decide) rfl hx hb hA hH (ox B i) (hox.resolve_left c_1).1 (hox.resolve_left c_1).2 rfl dX6_works_47 ?_
      refine lv_bipush (v := 30) hx hb dX6_works_48 (by decide) ?_
      refine lv_imul hx hb dX6_works_50 ?_
      refine lv_bipush (v := 100) hx hb dX6_works_51 (by decide) ?_
      refine lv_idiv hx hb dX6_works_53 (by decide) ?_
      refine lv_istore_n (lv' := [(3, .int (((B 26 (ox B i)) * 30) / 100)), (2, .int (B 11 i)), (0, .ref y), (1, .int (nI i))]) hx hb dX6_works_54 rfl hl (by decide) rfl (fun ls hl => ?_)
      refine lv_aload_n hx hb dX6_works_55 rfl (lv_at hl 2 rfl) ?_
      refine m_arr (f := 26) (by unfold mArr; decide) hx hb hts hi6 hown hA hH (hts (.fieldLink RX6 80 "ParoleCardsModel" "wage" "[I") (by decide +kernel)) rfl dX6_works_56 ?_
      refine lv_iload_n hx hb dX6_works_59 rfl (lv_at hl 1 rfl) ?_
      refine m_iald (f := 26) (v := (B 26 (ox B i))) (by unfold mArr; decide) rfl hx hb hA hH (ox B i) (hox.resolve_left c_1).1 (hox.resolve_left c_1).2 rfl dX6_works_60 ?_
      refine lv_bipush (v := 20) hx hb dX6_works_61 (by decide) ?_
      refine lv_imul hx hb dX6_works_63 ?_
      refine lv_bipush (v := 100) hx hb dX6_works_64 (by decide) ?_
      refine lv_idiv hx hb dX6_works_66 (by decide) ?_
      refine lv_istore (lv' := [(4, .int (((B 26 (ox B i)) * 20) / 100)), (3, .int (((B 26 (ox B i)) * 30) / 100)), (2, .int (B 11 i)), (0, .ref y), (1, .int (nI i))]) hx hb dX6_works_67 hl (by decide) rfl (fun ls hl => ?_)
      refine lv_aload_n hx hb dX6_works_69 rfl (lv_at hl 3 rfl) ?_
      refine m_arr (f := 14) (by unfold mArr; decide) hx hb hts hi6 hown hA hH (hts (.fieldLink RX6 47 "ParoleCardsModel" "account" "[I") (by decide +kernel)) rfl dX6_works_70 ?_
      refine lv_iconst (v := 4) hx hb dX6_works_73 (by decide) ?_
      refine lv_iload_n hx hb dX6_works_74 rfl (lv_at hl 4 rfl) ?_
      refine lv_imul hx hb dX6_works_75 ?_
      refine lv_iconst (v := 0) hx hb dX6_works_76 (by decide) ?_
      refine lv_iadd hx hb dX6_works_77 ?_
      refine lv_dup2_11 hx hb dX6_works_78 rfl rfl ?_
      refine m_iald (f := 14) (v := (B 14 (4 * i + 0))) (by unfold mArr; decide) rfl hx hb hA hH (4 * i + 0) (by simp only [show (4 : Int32) = nI 4 from rfl, show (0 : Int32) = nI 0 from rfl, show (1 : Int32) = nI 1 from rfl, show (2 : Int32) = nI 2 from rfl, show (3 : Int32) = nI 3 from rfl, show (50 : Int32) = nI 50 from rfl, pk_mul, nI_add]) (by rw [show mLen 14 = 40 from rfl]; omega) rfl dX6_works_79 ?_
      refine lv_iload_n hx hb dX6_works_80 rfl (lv_at hl 1 rfl) ?_
      refine lv_iadd hx hb dX6_works_81 ?_
      refine m_iast (f := 14) (by unfold mArr; decide) rfl hx hb hA hH hS (4 * i + 0) (by simp only [show (4 : Int32) = nI 4 from rfl, show (0 : Int32) = nI 0 from rfl, show (1 : Int32) = nI 1 from rfl, show (2 : Int32) = nI 2 from rfl, show (3 : Int32) = nI 3 from rfl, show (50 : Int32) = nI 50 from rfl, pk_mul, nI_add]) (by rw [show mLen 14 = 40 from rfl]; omega) dX6_works_82 (fun H locs hH hS => ?_)
      refine lv_aload_n hx hb dX6_works_83 rfl (lv_at hl 3 rfl) ?_
      refine m_arr (f := 14) (by unfold mArr; decide) hx hb hts hi6 hown hA hH (hts (.fieldLink RX6 47 "ParoleCardsModel" "account" "[I") (by decide +kernel)) rfl dX6_works_84 ?_
      refine lv_iconst (v := 4) hx hb dX6_works_87 (by decide) ?_
      refine lv_iload_n hx hb dX6_works_88 rfl (lv_at hl 4 rfl) ?_
      refine lv_imul hx hb dX6_works_89 ?_
      refine lv_iconst (v := 1) hx hb dX6_works_90 (by decide) ?_
      refine lv_iadd hx hb dX6_works_91 ?_
      refine lv_dup2_11 hx hb dX6_works_92 rfl rfl ?_
      refine m_iald (f := 14) (v := (B 14 (4 * i + 1))) (by unfold mArr; decide) rfl hx hb hA hH (4 * i + 1) (by simp only [show (4 : Int32) = nI 4 from rfl, show (0 : Int32) = nI 0 from rfl, show (1 : Int32) = nI 1 from rfl, show (2 : Int32) = nI 2 from rfl, show (3 : Int32) = nI 3 from rfl, show (50 : Int32) = nI 50 from rfl, pk_mul, nI_add]) (by rw [show mLen 14 = 40 from rfl]; omega) (by simp [z2, va_up]) dX6_works_93 ?_
      refine lv_iload hx hb dX6_works_94 (lv_at hl 0 rfl) ?_
      refine lv_iadd hx hb dX6_works_96 ?_
      refine m_iast (f := 14) (by unfold mArr; decide) rfl hx hb hA hH hS (4 * i + 1) (by simp only [show (4 : Int32) = nI 4 from rfl, show (0 : Int32) = nI 0 from rfl, show (1 : Int32) = nI 1 from rfl, show (2 : Int32) = nI 2 from rfl, show (3 : Int32) = nI 3 from rfl, show (50 : Int32) = nI 50 from rfl, pk_mul, nI_add]) (by rw [show mLen 14 = 40 from rfl]; omega) dX6_works_97 (fun H locs hH hS => ?_)
      refine lv_aload_n hx hb dX6_works_98 rfl (lv_at hl 3 rfl) ?_
      refine m_arr (f := 14) (by unfold mArr; decide) hx hb hts hi6 hown hA hH (hts (.fieldLink RX6 47 "ParoleCardsModel" "account" "[I") (by decide +kernel)) rfl dX6_works_99 ?_
      refine lv_iconst (v := 4) hx hb dX6_works_102 (by decide) ?_
      refine lv_iload_n hx hb dX6_works_103 rfl (lv_at hl 4 rfl) ?_
      refine lv_imul hx hb dX6_works_104 ?_
      refine lv_iconst (v := 2) hx hb dX6_works_105 (by decide) ?_
      refine lv_iadd hx hb dX6_works_106 ?_
      refine lv_dup2_11 hx hb dX6_works_107 rfl rfl ?_
      refine m_iald (f := 14) (v := (B 14 (4 * i + 2))) (by unfold mArr; decide) rfl hx hb hA hH (4 * i + 2) (by simp only [show (4 : Int32) = nI 4 from rfl, show (0 : Int32) = nI 0 from rfl, show (1 : Int32) = nI 1 from rfl, show (2 : Int32) = nI 2 from rfl, show (3 : Int32) = nI 3 from rfl, show (50 : Int32) = nI 50 from rfl, pk_mul, nI_add]) (by rw [show mLen 14 = 40 from rfl]; omega) (by simp [z2, va_up]) dX6_works_108 ?_
      refine lv_iload_n hx hb dX6_works_109 rfl (lv_at hl 1 rfl) ?_
      refine lv_iadd hx hb dX6_works_110 ?_
      refine m_iast (f := 14) (by unfold mArr; decide) rfl hx hb hA hH hS (4 * i + 2) (by simp only [show (4 : Int32) = nI 4 from rfl, show (0 : Int32) = nI 0 from rfl, show (1 : Int32) = nI 1 from rfl, show (2 : Int32) = nI 2 from rfl, show (3 : Int32) = nI 3 from rfl, show (50 : Int32) = nI 50 from rfl, pk_mul, nI_add]) (by rw [show mLen 14 = 40 from rfl]; omega) dX6_works_111 (fun H locs hH hS => ?_)
      refine lv_aload_n hx hb dX6_works_112 rfl (lv_at hl 3 rfl) ?_
      refine m_arr (f := 14) (by unfold mArr; decide) hx hb hts hi6 hown hA hH (hts (.fieldLink RX6 47 "ParoleCardsModel" "account" "[I") (by decide +kernel)) rfl dX6_works_113 ?_
      refine lv_iconst (v := 4) hx hb dX6_works_116 (by decide) ?_
      refine lv_iload_n hx hb dX6_works_117 rfl (lv_at hl 4 rfl) ?_
      refine lv_imul hx hb dX6_works_118 ?_
      refine lv_iconst (v := 3) hx hb dX6_works_119 (by decide) ?_
      refine lv_iadd hx hb dX6_works_120 ?_
      refine lv_dup2_11 hx hb dX6_works_121 rfl rfl ?_
      refine m_iald (f := 14) (v := (B 14 (4 * i + 3))) (by unfold mArr; decide) rfl hx hb hA hH (4 * i + 3) (by simp only [show (4 : Int32) = nI 4 from rfl, show (0 : Int32) = nI 0 from rfl, show (1 : Int32) = nI 1 from rfl, show (2 : Int32) = nI 2 from rfl, show (3 : Int32) = nI 3 from rfl, show (50 : Int32) = nI 50 from rfl, pk_mul, nI_add]) (by rw [show mLen 14 = 40 from rfl]; omega) (by simp [z2, va_up]) dX6_works_122 ?_
      refine lv_aload_n hx hb dX6_works_123 rfl (lv_at hl 3 rfl) ?_
      refine m_arr (f := 26) (by unfold mArr; decide) hx hb hts hi6 hown hA hH (hts (.fieldLink RX6 80 "ParoleCardsModel" "wage" "[I") (by decide +kernel)) rfl dX6_works_124 ?_
      refine lv_iload_n hx hb dX6_works_127 rfl (lv_at hl 2 rfl) ?_
      refine m_iald (f := 26) (v := (B 26 (ox B i))) (by unfold mArr; decide) rfl hx hb hA hH (ox B i) (hox.resolve_left c_1).1 (hox.resolve_left c_1).2 rfl dX6_works_128 ?_
      refine lv_iload_n hx hb dX6_works_129 rfl (lv_at hl 1 rfl) ?_
      refine lv_isub hx hb dX6_works_130 ?_
      refine lv_iload hx hb dX6_works_131 (lv_at hl 0 rfl) ?_
      refine lv_isub hx hb dX6_works_133 ?_
      refine lv_iload_n hx hb dX6_works_134 rfl (lv_at hl 1 rfl) ?_
      refine lv_isub hx hb dX6_works_135 ?_
      refine lv_iadd hx hb dX6_works_136 ?_
      refine m_iast (f := 14) (by unfold mArr; decide) rfl hx hb hA hH hS (4 * i + 3) (by simp only [show (4 : Int32) = nI 4 from rfl, show (0 : Int32) = nI 0 from rfl, show (1 : Int32) = nI 1 from rfl, show (2 : Int32) = nI 2 from rfl, show (3 : Int32) = nI 3 from rfl, show (50 : Int32) = nI 50 from rfl, pk_mul, nI_add]) (by rw [show mLen 14 = 40 from rfl]; omega) dX6_works_137 (fun H locs hH hS => ?_)
      exact z_vret hx hb hr hlocks hH hS (by simp [sWork, c_1, c_2]) (by decide) (by decide) dX6_works_138
    · exact z_vret hx hb hr hlocks hH hS (by simp [sWork, c_1, c_2]) (by decide) (by decide) dX6_works_21
set_option maxHeartbeats 4000000 in
set_option maxRecDepth 100000 in
theorem c6_goes (l : Launch) (D : va_G) (cy : Nat → ClassId) (base : Nat) (w0 : zW) (y : Nat) (r : Nat → Nat) (B : Nat → Nat → Int32) (i : Nat) (hi : i < 10) (h10 : B 10 i = nI (oc B i)) (h50 : oc B i ≤ 50) : Met l yX6_goes wsX6_goes ({ frames := 2, cells := 0, slots := 0, locals := 46 }) (zPc D cy base (mH D cy base w0 y r) [.ref y, .int (nI i)] B) (zQi base (mH D cy base w0 y r) (fun (r0 : Int32) (u0 : Nat → Nat → Int32) => r0 = (sGoN B i) ∧ u0 = (sGo B i))) 0 0 (fun q => base ≤ q) := by
  refine Met.ofW (cc := cX6_goes) (maxL := 2) (ret := (some .int)) (by decide) rfl ?_
  intro p e s m args below meth c s₁ B9 hml hv
  obtain ⟨rfl, hA, hH⟩ := hv
  have hx := B9.exec
  have hb := B9.bytes
  have hr := B9.returns
  have hts := atoms_spec (ws := wsX6_goes) B9.pre
  have hown : s.vm.findClass RX6 = some m.cls := findClass_of_methodNamed B9.named
  have hlocks := B9.notSynchronized
  have hi6 : ∀ w ∈ wsX60, w ∈ wsX6_goes := by decide +kernel
  have hS : va_S (fun q : Nat => base ≤ q) s.heap s.heap [] := va_S.rf
  have hl := lv_entry ([.ref y, .int (nI i)]) (n := 2) (Nat.le_of_ble_eq_true rfl)
  rw [lg_entry_eq]
  generalize (lg_sl ([.ref y, .int (nI i)]) ++ List.replicate (2 - (lg_sl ([.ref y, .int (nI i)])).length) Slot.unset).toArray = ls at hl ⊢
  have hl : lv_has ls 2 [(0, .ref y), (1, .int (nI i))] := hl
  refine lv_aload_n hx hb dX6_goes_0 rfl (lv_at hl 0 rfl) ?_
  refine m_arr (f := 2) (by unfold mArr; decide) hx hb hts hi6 hown hA hH (hts (.fieldLink RX6 7 "ParoleCardsModel" "isOut" "[Z") (by decide +kernel)) rfl dX6_goes_1 ?_
  refine lv_iload_n hx hb dX6_goes_4 rfl (lv_at hl 1 rfl) ?_
  refine m_zald (f := 2) (v := (B 2 i)) (by unfold mArr; decide) rfl hx hb hA hH i rfl (by rw [show mLen 2 = 10 from rfl]; omega) rfl dX6_goes_5 ?_
  refine lv_if_ne (tgt := 21) hx hb dX6_goes_6 (by decide) (fun c_1 => ?_) (fun c_1 => ?_)
  · refine lv_iconst (v := 0) hx hb dX6_goes_21 (by decide) ?_
    exact z_iret hx hb hr hlocks hH hS ⟨by simp [sGoN, c_1], by simp [sGo, c_1]⟩ (by decide) (by decide) dX6_goes_22
  · refine lv_aload_n hx hb dX6_goes_9 rfl (lv_at hl 0 rfl) ?_
    refine lv_iload_n hx hb dX6_goes_10 rfl (lv_at hl 1 rfl) ?_
    refine z_calli (va_runV (As := [.int (nI i)]) (rest := []) ⟨hx, hb, hml, hown, hts⟩ (c6_releaseOf l D cy base w0 y r B i (by omega) h10 h50) (cwV 1 hts gX6_goes_X6_releaseOf rfl rfl rfl (by decide +kernel) ⟨Nat.le_of_ble_eq_true rfl, Nat.le_of_ble_eq_true rfl⟩) (z_preV hA hS hH (m_recv hA hH)) rfl rfl hl.1 rfl (lv_room (Nat.le_of_ble_eq_true rfl)) dX6_goes_11 ⟨Nat.le_of_ble_eq_true rfl, Nat.le_of_ble_eq_true rfl⟩) hS (fun r_k_2 u_k_2 H locs hw_k_2 hH hz_k_2 hS => ?_)
    rcases hw_k_2 with ⟨rfl, hu_k_2⟩
    rw [hu_k_2] at hH
    refine lv_aload_n hx hb dX6_goes_14 rfl (lv_at hl 0 rfl) ?_
    refine m_num (f := 0) (v := (B 0 0)) (by unfold mNum; decide) hx hb hts hi6 hown hA hH (hts (.fieldLink RX6 101 "ParoleCardsModel" "today" "I") (by decide +kernel)) rfl dX6_goes_15 ?_
    refine lv_icmp_le (tgt := 23) hx hb dX6_goes_18 (by decide) (fun c_3 => ?_) (fun c_3 => ?_)
    · refine lv_aload_n hx hb dX6_goes_23 rfl (lv_at hl 0 rfl) ?_
      refine m_arr (f := 2) (by unfold mArr; decide) hx hb hts hi6 hown hA hH (hts (.fieldLink RX6 7 "ParoleCardsModel" "isOut" "[Z") (by decide +kernel)) rfl dX6_goes_24 ?_
      refine lv_iload_n hx hb dX6_goes_27 rfl (lv_at hl 1 rfl) ?_
      refine lv_iconst (v := 1) hx hb dX6_goes_28 (by decide) ?_
      refine m_zast (f := 2) (by unfold mArr; decide) rfl hx hb hA hH hS rfl i rfl (by rw [show mLen 2 = 10 from rfl]; omega) dX6_goes_29 (fun H locs hH hS => ?_)
      refine lv_aload_n hx hb dX6_goes_30 rfl (lv_at hl 0 rfl) ?_
      refine m_arr (f := 12) (by unfold mArr; decide) hx hb hts hi6 hown hA hH (hts (.fieldLink RX6 41 "ParoleCardsModel" "released" "[I") (by decide +kernel)) rfl dX6_goes_31 ?_
      refine lv_iload_n hx hb dX6_goes_34 rfl (lv_at hl 1 rfl) ?_
      refine lv_aload_n hx hb dX6_goes_35 rfl (lv_at hl 0 rfl) ?_
      refine m_num (f := 0) (v := (B 0 0)) (by unfold mNum; decide) hx hb hts hi6 hown hA hH (hts (.fieldLink RX6 101 "ParoleCardsModel" "today" "I") (by decide +kernel)) rfl dX6_goes_36 ?_
      refine m_iast (f := 12) (by unfold mArr; decide) rfl hx hb hA hH hS i rfl (by rw [show mLen 12 = 10 from rfl]; omega) dX6_goes_39 (fun H locs hH hS => ?_)
      refine lv_aload_n hx hb dX6_goes_40 rfl (lv_at hl 0 rfl) ?_
      refine m_arr (f := 11) (by unfold mArr; decide) hx hb hts hi6 hown hA hH (hts (.fieldLink RX6 38 "ParoleCardsModel" "on" "[I") (by decide +kernel)) rfl dX6_goes_41 ?_
      refine lv_iload_n hx hb dX6_goes_44 rfl (lv_at hl 1 rfl) ?_
      refine lv_iconst (v := (-1)) hx hb dX6_goes_45 (by decide) ?_
      refine m_iast (f := 11) (by unfold mArr; decide) rfl hx hb hA hH hS i rfl (by rw [show mLen 11 = 10 from rfl]; omega) dX6_goes_46 (fun H locs hH hS => ?_)
      refine lv_aload_n hx hb dX6_goes_47 rfl (lv_at hl 0 rfl) ?_
      refine m_arr (f := 13) (by unfold mArr; decide) hx hb hts hi6 hown hA hH (hts (.fieldLink RX6 44 "ParoleCardsModel" "paid" "[I") (by decide +kernel)) rfl dX6_goes_48 ?_
      refine lv_iload_n hx hb dX6_goes_51 rfl (lv_at hl 1 rfl) ?_
      refine lv_aload_n hx hb dX6_goes_52 rfl (lv_at hl 0 rfl) ?_
      refine m_arr (f := 14) (by unfold mArr; decide) hx hb hts hi6 hown hA hH (hts (.fieldLink RX6 47 "ParoleCardsModel" "account" "[I") (by decide +kernel)) rfl dX6_goes_53 ?_
      refine lv_iconst (v := 4) hx hb dX6_goes_56 (by decide) ?_
      refine lv_iload_n hx hb dX6_goes_57 rfl (lv_at hl 1 rfl) ?_
      refine lv_imul hx hb dX6_goes_58 ?_
      refine lv_iconst (v := 2) hx hb dX6_goes_59 (by decide) ?_
      refine lv_iadd hx hb dX6_goes_60 ?_
      refine m_iald (f := 14) (v := (B 14 (4 * i + 2))) (by unfold mArr; decide) rfl hx hb hA hH (4 * i + 2) (by simp only [show (4 : Int32) = nI 4 from rfl, show (0 : Int32) = nI 0 from rfl, show (1 : Int32) = nI 1 from rfl, show (2 : Int32) = nI 2 from rfl, show (3 : Int32) = nI 3 from rfl, show (50 : Int32) = nI 50 from rfl, pk_mul, nI_add]) (by rw [show mLen 14 = 40 from rfl]; omega) rfl dX6_goes_61 ?_
      refine lv_aload_n hx hb dX6_goes_62 rfl (lv_at hl 0 rfl) ?_
      refine m_arr (f := 14) (by unfold mArr; decide) hx hb hts hi6 hown hA hH (hts (.fieldLink RX6 47 "ParoleCardsModel" "account" "[I") (by decide +kernel)) rfl dX6_goes_63 ?_
      refine lv_iconst (v := 4) hx hb dX6_goes_66 (by decide) ?_
      refine lv_iload_n hx hb dX6_goes_67 rfl (lv_at hl 1 rfl) ?_
      refine lv_imul hx hb dX6_goes_68 ?_
      refine lv_iconst (v := 3) hx hb dX6_goes_69 (by decide) ?_
      refine lv_iadd hx hb dX6_goes_70 ?_
      refine m_iald (f := 14) (v := (B 14 (4 * i + 3))) (by unfold mArr; decide) rfl hx hb hA hH (4 * i + 3) (by simp only [show (4 : Int32) = nI 4 from rfl, show (0 : Int32) = nI 0 from rfl, show (1 : Int32) = nI 1 from rfl, show (2 : Int32) = nI 2 from rfl, show (3 : Int32) = nI 3 from rfl, show (50 : Int32) = nI 50 from rfl, pk_mul, nI_add]) (by rw [show mLen 14 = 40 from rfl]; omega) rfl dX6_goes_71 ?_
      refine lv_iadd hx hb dX6_goes_72 ?_
      refine m_iast (f := 13) (by unfold mArr; decide) rfl hx hb hA hH hS i rfl (by rw [show mLen 13 = 10 from rfl]; omega) dX6_goes_73 (fun H locs hH hS => ?_)
      refine lv_aload_n hx hb dX6_goes_74 rfl (lv_at hl 0 rfl) ?_
      refine m_arr (f := 14) (by unfold mArr; decide) hx hb hts hi6 hown hA hH (hts (.fieldLink RX6 47 "ParoleCardsModel" "account" "[I") (by decide +kernel)) rfl dX6_goes_75 ?_
      refine lv_iconst (v := 4) hx hb dX6_goes_78 (by decide) ?_
      refine lv_iload_n hx hb dX6_goes_79 rfl (lv_at hl 1 rfl) ?_
      refine lv_imul hx hb dX6_goes_80 ?_
      refine lv_iconst (v := 2) hx hb dX6_goes_81 (by decide) ?_
      refine lv_iadd hx hb dX6_goes_82 ?_
      refine lv_iconst (v := 0) hx hb dX6_goes_83 (by decide) ?_
      refine m_iast (f := 14) (by unfold mArr; decide) rfl hx hb hA hH hS (4 * i + 2) (by simp only [show (4 : Int32) = nI 4 from rfl, show (0 : Int32) = nI 0 from rfl, show (1 : Int32) = nI 1 from rfl, show (2 : Int32) = nI 2 from rfl, show (3 : Int32) = nI 3 from rfl, show (50 : Int32) = nI 50 from rfl, pk_mul, nI_add]) (by rw [show mLen 14 = 40 from rfl]; omega) dX6_goes_84 (fun H locs hH hS => ?_)
      refine lv_aload_n hx hb dX6_goes_85 rfl (lv_at hl 0 rfl) ?_
      refine m_arr (f := 14) (by unfold mArr; decide) hx hb hts hi6 hown hA hH (hts (.fieldLink RX6 47 "ParoleCardsModel" "account" "[I") (by decide +kernel)) rfl dX6_goes_86 ?_
      refine lv_iconst (v := 4) hx hb dX6_goes_89 (by decide) ?_
      refine lv_iload_n hx hb dX6_goes_90 rfl (lv_at hl 1 rfl) ?_
      refine lv_imul hx hb dX6_goes_91 ?_
      refine lv_iconst (v := 3) hx hb dX6_goes_92 (by decide) ?_
      refine lv_iadd hx hb dX6_goes_93 ?_
      refine lv_iconst (v := 0) hx hb dX6_goes_94 (by decide) ?_
      refine m_iast (f := 14) (by unfold mArr; decide) rfl hx hb hA hH hS (4 * i + 3) (by simp only [show (4 : Int32) = nI 4 from rfl, show (0 : Int32) = nI 0 from rfl, show (1 : Int32) = nI 1 from rfl, show (2 : Int32) = nI 2 from rfl, show (3 : Int32) = nI 3 from rfl, show (50 : Int32) = nI 50 from rfl, pk_mul, nI_add]) (by rw [show mLen 14 = 40 from rfl]; omega) dX6_goes_95 (fun H locs hH hS => ?_)
      refine lv_iconst (v := 1) hx hb dX6_goes_96 (by decide) ?_
      exact z_iret hx hb hr hlocks hH hS ⟨by simp [sGoN, c_1, c_3, Int32.not_lt.mpr c_3], by simp [sGo, c_1, c_3, Int32.not_lt.mpr c_3]⟩ (by decide) (by decide) dX6_goes_97
    · refine lv_iconst (v := 0) hx hb dX6_goes_21 (by decide) ?_
      exact z_iret hx hb hr hlocks hH hS ⟨by simp [sGoN, c_1, c_3, Int32.not_le.mp c_3], by simp [sGo, c_1, c_3, Int32.not_le.mp c_3]⟩ (by decide) (by decide) dX6_goes_22
