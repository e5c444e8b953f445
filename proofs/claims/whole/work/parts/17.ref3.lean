set_option maxHeartbeats 4000000 in
set_option maxRecDepth 100000 in
theorem c6_release (l : Launch) (D : va_G) (cy : Nat → ClassId) (base : Nat) (w0 : zW) (y : Nat) (r : Nat → Nat) (B : Nat → Nat → Int32) (its : Int32) (hinv : mInv B) : Met l yX6_release wsX6_release ({ frames := 2, cells := 0, slots := 0, locals := 46 }) (zPc D cy base (mH D cy base w0 y r) [.ref y, .int its] B) (zQi base (mH D cy base w0 y r) (fun (r0 : Int32) (u0 : Nat → Nat → Int32) => ((cd_P B its) = 0 ∧ r0 = (an_release (z2 B 27 0 0) its) ∧ u0 = ((z2 B 27 0 0))) ∨ (¬ (cd_P B its) = 0 ∧ u0 = (z2 B 27 0 (cd_P B its))))) 0 0 (fun q => base ≤ q) := by
  refine Met.ofW (cc := cX6_release) (maxL := 2) (ret := (some .int)) (by decide) rfl ?_
  intro p e s m args below meth c s₁ B9 hml hv
  obtain ⟨rfl, hA, hH⟩ := hv
  have hx := B9.exec
  have hb := B9.bytes
  have hr := B9.returns
  have hts := atoms_spec (ws := wsX6_release) B9.pre
  have hown : s.vm.findClass RX6 = some m.cls := findClass_of_methodNamed B9.named
  have hlocks := B9.notSynchronized
  have hS : va_S (fun q : Nat => base ≤ q) s.heap s.heap [] := va_S.rf
  have hl := lv_entry ([.ref y, .int its]) (n := 2) (Nat.le_of_ble_eq_true rfl)
  rw [lg_entry_eq]
  generalize (lg_sl ([.ref y, .int its]) ++ List.replicate (2 - (lg_sl ([.ref y, .int its])).length) Slot.unset).toArray = ls at hl ⊢
  have hl : lv_has ls 2 [(0, .ref y), (1, .int its)] := hl
  rcases vP_split hinv its with ⟨i, rfl, hi, hi10, hvP, hix⟩ | hvP
  · obtain ⟨h10, h50⟩ := mInv_oc50 hinv hi
    refine lv_aload_n hx hb dX6_release_0 rfl (lv_at hl 0 rfl) ?_
    refine lv_aload_n hx hb dX6_release_1 rfl (lv_at hl 0 rfl) ?_
    refine lv_iload_n hx hb dX6_release_2 rfl (lv_at hl 1 rfl) ?_
    refine z_calli (va_runV (As := [.int (nI i)]) (rest := [.ref y]) ⟨hx, hb, hml, hown, hts⟩ (c6_isPerson_t l D cy base w0 y r B i hvP) (cwV 1 hts gX6_release_X6_isPerson rfl rfl rfl (by decide +kernel) ⟨Nat.le_of_ble_eq_true rfl, Nat.le_of_ble_eq_true rfl⟩) (z_preV hA hS hH (m_recv hA hH)) rfl rfl hl.1 rfl (lv_room (Nat.le_of_ble_eq_true rfl)) dX6_release_3 ⟨Nat.le_of_ble_eq_true rfl, Nat.le_of_ble_eq_true rfl⟩) hS (fun r_k_1 u_k_1 H locs hw_k_1 hH hz_k_1 hS => ?_)
    rcases hw_k_1 with ⟨rfl, hu_k_1⟩
    rw [hu_k_1] at hH
    refine lv_if_eq (tgt := 13) hx hb dX6_release_6 (by decide) (fun c_2 => absurd c_2 (by decide)) (fun _ => ?_)
    refine lv_iconst (v := 0) hx hb dX6_release_9 (by decide) ?_
    refine lv_goto (tgt := 14) hx hb dX6_release_10 (by decide) ?_
    refine z_calli (va_runV (As := [.int 0]) (rest := []) ⟨hx, hb, hml, hown, hts⟩ (c6_fails0 l D cy base w0 y r B  ) (cwV 1 hts gX6_release_X6_fails rfl rfl rfl (by decide +kernel) ⟨Nat.le_of_ble_eq_true rfl, Nat.le_of_ble_eq_true rfl⟩) (z_preV hA hS hH (m_recv hA hH)) rfl rfl hl.1 rfl (lv_room (Nat.le_of_ble_eq_true rfl)) dX6_release_14 ⟨Nat.le_of_ble_eq_true rfl, Nat.le_of_ble_eq_true rfl⟩) hS (fun r_k_3 u_k_3 H locs hw_k_3 hH hz_k_3 hS => ?_)
    rcases hw_k_3 with ⟨rfl, hu_k_3⟩
    rw [hu_k_3] at hH
    refine lv_if_eq (tgt := 24) hx hb dX6_release_17 (by decide) (fun _ => ?_) (fun c_4 => absurd c_4 (by decide))
    refine lv_aload_n hx hb dX6_release_24 rfl (lv_at hl 0 rfl) ?_
    refine lv_iload_n hx hb dX6_release_25 rfl (lv_at hl 1 rfl) ?_
    refine z_calli (va_runV (As := [.int (nI i)]) (rest := []) ⟨hx, hb, hml, hown, hts⟩ (c6_releaseOf l D cy base w0 y r (z2 B 27 0 0) i (by omega) h10 h50) (cwV 1 hts gX6_release_X6_releaseOf rfl rfl rfl (by decide +kernel) ⟨Nat.le_of_ble_eq_true rfl, Nat.le_of_ble_eq_true rfl⟩) (z_preV hA hS hH (m_recv hA hH)) rfl rfl hl.1 rfl (lv_room (Nat.le_of_ble_eq_true rfl)) dX6_release_26 ⟨Nat.le_of_ble_eq_true rfl, Nat.le_of_ble_eq_true rfl⟩) hS (fun r_k_5 u_k_5 H locs hw_k_5 hH hz_k_5 hS => ?_)
    rcases hw_k_5 with ⟨rfl, hu_k_5⟩
    rw [hu_k_5] at hH
    exact z_iret hx hb hr hlocks hH hS (by
      have hc : (cd_P B (nI i)) = 0 := by first | (simp [cd_P, hvP, hix]; done) | (simp_all [cd_P]; done)
      refine Or.inl ⟨hc, ?_, ?_⟩ <;> (simp [an_release, hvP, hix, z27_0, z27_1, z27_2, z27_3, z27_4, z27_5, z27_6, z27_7, z27_8, z27_9, z27_10, z27_11, z27_12, z27_13, z27_14, z27_15, z27_16, z27_17, z27_18, z27_19, z27_20, z27_21, z27_22, z27_23, z27_24, z27_25, z27_26, z27_oc, z27_ox, z27_kx, z27_nP, z27_nO]; done)) (by decide) (by decide) dX6_release_29
  · refine lv_aload_n hx hb dX6_release_0 rfl (lv_at hl 0 rfl) ?_
    refine lv_aload_n hx hb dX6_release_1 rfl (lv_at hl 0 rfl) ?_
    refine lv_iload_n hx hb dX6_release_2 rfl (lv_at hl 1 rfl) ?_
    refine z_calli (va_runV (As := [.int its]) (rest := [.ref y]) ⟨hx, hb, hml, hown, hts⟩ (c6_isPerson_f l D cy base w0 y r B its hvP) (cwV 1 hts gX6_release_X6_isPerson rfl rfl rfl (by decide +kernel) ⟨Nat.le_of_ble_eq_true rfl, Nat.le_of_ble_eq_true rfl⟩) (z_preV hA hS hH (m_recv hA hH)) rfl rfl hl.1 rfl (lv_room (Nat.le_of_ble_eq_true rfl)) dX6_release_3 ⟨Nat.le_of_ble_eq_true rfl, Nat.le_of_ble_eq_true rfl⟩) hS (fun r_k_6 u_k_6 H locs hw_k_6 hH hz_k_6 hS => ?_)
    rcases hw_k_6 with ⟨rfl, hu_k_6⟩
    rw [hu_k_6] at hH
    refine lv_if_eq (tgt := 13) hx hb dX6_release_6 (by decide) (fun _ => ?_) (fun c_7 => absurd c_7 (by decide))
    refine lv_iconst (v := 1) hx hb dX6_release_13 (by decide) ?_
    refine z_calli (va_runV (As := [.int 1]) (rest := []) ⟨hx, hb, hml, hown, hts⟩ (c6_fails1 l D cy base w0 y r B  ) (cwV 1 hts gX6_release_X6_fails rfl rfl rfl (by decide +kernel) ⟨Nat.le_of_ble_eq_true rfl, Nat.le_of_ble_eq_true rfl⟩) (z_preV hA hS hH (m_recv hA hH)) rfl rfl hl.1 rfl (lv_room (Nat.le_of_ble_eq_true rfl)) dX6_release_14 ⟨Nat.le_of_ble_eq_true rfl, Nat.le_of_ble_eq_true rfl⟩) hS (fun r_k_8 u_k_8 H locs hw_k_8 hH hz_k_8 hS => ?_)
    rcases hw_k_8 with ⟨rfl, hu_k_8⟩
    rw [hu_k_8] at hH
    refine lv_if_eq (tgt := 24) hx hb dX6_release_17 (by decide) (fun c_9 => absurd c_9 (by decide)) (fun _ => ?_)
    refine lv_iconst (v := 0) hx hb dX6_release_20 (by decide) ?_
    refine lv_goto (tgt := 29) hx hb dX6_release_21 (by decide) ?_
    exact z_iret hx hb hr hlocks hH hS (by
      have hc : (cd_P B its) = 1 := by first | (simp [cd_P, hvP]; done) | (simp_all [cd_P]; done)
      exact Or.inr ⟨by rw [hc]; decide, by rw [hc]⟩) (by decide) (by decide) dX6_release_29
