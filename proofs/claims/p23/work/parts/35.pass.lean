set_option maxHeartbeats 4000000 in
set_option maxRecDepth 100000 in
theorem c5_work (l : Launch) (D : va_G) (cy : Nat → ClassId) (base : Nat) (w : zW) (x : Nat) (ad : Nat → Nat → Nat) (B : mB) (hR : rAll w x ad B) (hinv : mInv B) (hK : mK B) : Met l yX5_workInTheShop wsX5_workInTheShop ({ frames := 2, cells := 0, slots := 0, locals := 45 }) (zPc D cy base (zH D cy base) [.ref x] w) (zQv base (zH D cy base) (fun (u0 : zW) => rAll u0 x ad (sLeaves (sWorks B (nP B)) (nP B)) ∧ cFr w u0)) 0 0 (fun q => base ≤ q) := by
  refine Met.ofW (cc := cX5_workInTheShop) (maxL := 5) (ret := none) (by decide) rfl ?_
  intro p e s m args below meth c s₁ B9 hml hv
  obtain ⟨rfl, hA, hH⟩ := hv
  have hx := B9.exec
  have hb := B9.bytes
  have hr := B9.returns
  have hts := atoms_spec (ws := wsX5_workInTheShop) B9.pre
  have hown : s.vm.findClass RX5 = some m.cls := findClass_of_methodNamed B9.named
  have hlocks := B9.notSynchronized
  have hi5 : ∀ w ∈ wsX50, w ∈ wsX5_workInTheShop := by decide +kernel
  have hS : va_S (fun q : Nat => base ≤ q) s.heap s.heap [] := va_S.rf
  have hl := lv_entry ([.ref x]) (n := 5) (Nat.le_of_ble_eq_true rfl)
  rw [lg_entry_eq]
  generalize (lg_sl ([.ref x]) ++ List.replicate (5 - (lg_sl ([.ref x])).length) Slot.unset).toArray = ls at hl ⊢
  have hl : lv_has ls 5 [(0, .ref x)] := hl
  have hR9 := hR
  obtain ⟨⟨⟨k_x, i503, i504, i505⟩, ⟨p500, p501, p502⟩, k_A, n_A, k_O, n_O, k_T, n_T⟩, ⟨qA, qO, qT⟩, hTool, hPk, ⟨h200, h201, h202, h203, h204, h205, h206, h208, h209, h212, h213⟩, hPo, ⟨h301, h302, h303, hAc⟩, ⟨hOq, hOf⟩, hOr, hInj⟩ := hR9
  refine lv_aload_n hx hb dX5_workInTheShop_0 rfl (lv_at hl 0 rfl) ?_
  refine z_get (C := RX5) (T := TX5) (N := 6) (ci := 5) (index := 11) (v := .ref (ad 7 0)) hx hb hts hi5 hown hA hH (zk0 k_x (by decide)) (zE_k6 k_x) rfl 0 (by decide) (hts (.fieldLink RX5 11 "ParoleCards" "people" "[LParoleCards$Person;") (by decide +kernel)) (fun _ h9 => h9) (congrArg (fun z => some (va_rf z)) p500) dX5_workInTheShop_1 ?_
  refine lv_astore_n (lv' := [(1, .ref (ad 7 0)), (0, .ref x)]) hx hb dX5_workInTheShop_4 rfl hl (by decide) rfl (fun ls hl => ?_)
  refine lv_aload_n hx hb dX5_workInTheShop_5 rfl (lv_at hl 0 rfl) ?_
  refine z_alen (v := 10) hx hb hA hH (zk0 k_A (by decide)) (zE_k12 k_A) 4 rfl (congrArg Int32.ofNat n_A) dX5_workInTheShop_6 ?_
  refine lv_istore_n (lv' := [(2, .int 10), (1, .ref (ad 7 0)), (0, .ref x)]) hx hb dX5_workInTheShop_7 rfl hl (by decide) rfl (fun ls hl => ?_)
  refine lv_iconst (v := 0) hx hb dX5_workInTheShop_8 (by decide) ?_
  refine lv_istore_n (lv' := [(3, .int 0), (2, .int 10), (1, .ref (ad 7 0)), (0, .ref x)]) hx hb dX5_workInTheShop_9 rfl hl (by decide) rfl (fun ls hl => ?_)
  have hl_1 : lv_has ls 5 [(0, .ref x), (1, .ref (ad 7 0)), (2, .int 10), (3, .int 0)] := lv_sub hl [3, 2, 1, 0] rfl
  have hl_1 : lv_has ls 5 [(0, .ref x), (1, .ref (ad 7 0)), (2, .int 10), (3, .int (nI 0))] := hl_1
  refine z_for (nL := 5) (10) (fun k (u : zW) => rAll u x ad (sWorks B (min k (nP B))) ∧ cFr w u) (fun k _ => [(0, .ref x), (1, .ref (ad 7 0)), (2, .int 10), (3, .int (nI k))]) 0 (Nat.zero_le _) (u := w) ⟨by rw [Nat.zero_min]; exact hR, cFr_rf _⟩ hH hS hl_1 ?_ ?_
  · intro u H locs ls hu hH hS hl
    obtain ⟨hRu, hFu⟩ := hu
    rw [mn10 hinv.1.1] at hRu
    obtain ⟨hIW, hnW, -⟩ := mInv_same hinv (sWorks_same B (nP B))
    have hR9 := hRu
    obtain ⟨⟨⟨k_x, i503, i504, i505⟩, ⟨p500, p501, p502⟩, k_A, n_A, k_O, n_O, k_T, n_T⟩, ⟨qA, qO, qT⟩, hTool, hPk, ⟨h200, h201, h202, h203, h204, h205, h206, h208, h209, h212, h213⟩, hPo, ⟨h301, h302, h303, hAc⟩, ⟨hOq, hOf⟩, hOr, hInj⟩ := hR9
    refine lv_iload_n hx hb dX5_workInTheShop_10 rfl (lv_at hl 3 rfl) ?_
    refine lv_iload_n hx hb dX5_workInTheShop_11 rfl (lv_at hl 2 rfl) ?_
    refine lv_icmp_ge (tgt := 36) hx hb dX5_workInTheShop_12 (by decide) (fun c_2 => ?_) (fun c_2 => absurd (nI_le (a := 10) (b := 10) (Nat.le_refl _) (by decide)) c_2)
    refine lv_aload_n hx hb dX5_workInTheShop_36 rfl (lv_at hl 0 rfl) ?_
    refine z_get (C := RX5) (T := TX5) (N := 6) (ci := 5) (index := 11) (v := .ref (ad 7 0)) hx hb hts hi5 hown hA hH (zk0 k_x (by decide)) (zE_k6 k_x) rfl 0 (by decide) (hts (.fieldLink RX5 11 "ParoleCards" "people" "[LParoleCards$Person;") (by decide +kernel)) (fun _ h9 => h9) (congrArg (fun z => some (va_rf z)) p500) dX5_workInTheShop_37 ?_
    refine lv_astore_n (lv' := [(1, .ref (ad 7 0)), (0, .ref x), (2, .int 10), (3, .int (nI 10))]) hx hb dX5_workInTheShop_40 rfl hl (by decide) rfl (fun ls hl => ?_)
    refine lv_aload_n hx hb dX5_workInTheShop_41 rfl (lv_at hl 0 rfl) ?_
    refine z_alen (v := 10) hx hb hA hH (zk0 k_A (by decide)) (zE_k12 k_A) 4 rfl (congrArg Int32.ofNat n_A) dX5_workInTheShop_42 ?_
    refine lv_istore_n (lv' := [(2, .int 10), (1, .ref (ad 7 0)), (0, .ref x), (3, .int (nI 10))]) hx hb dX5_workInTheShop_43 rfl hl (by decide) rfl (fun ls hl => ?_)
    refine lv_iconst (v := 0) hx hb dX5_workInTheShop_44 (by decide) ?_
    refine lv_istore_n (lv' := [(3, .int 0), (2, .int 10), (1, .ref (ad 7 0)), (0, .ref x)]) hx hb dX5_workInTheShop_45 rfl hl (by decide) rfl (fun ls hl => ?_)
    have hl_3 : lv_has ls 5 [(0, .ref x), (1, .ref (ad 7 0)), (2, .int 10), (3, .int 0)] := lv_sub hl [3, 2, 1, 0] rfl
    have hl_3 : lv_has ls 5 [(0, .ref x), (1, .ref (ad 7 0)), (2, .int 10), (3, .int (nI 0))] := hl_3
    refine z_for (nL := 5) (10) (fun k (u : zW) => rAll u x ad (sLeaves (sWorks B (nP B)) (min k (nP B))) ∧ cFr w u) (fun k _ => [(0, .ref x), (1, .ref (ad 7 0)), (2, .int 10), (3, .int (nI k))]) 0 (Nat.zero_le _) (u := u) ⟨by rw [Nat.zero_min]; exact hRu, hFu⟩ hH hS hl_3 ?_ ?_
    · intro u H locs ls hu hH hS hl
      obtain ⟨hRu, hFu⟩ := hu
      rw [mn10 hinv.1.1] at hRu
      refine lv_iload_n hx hb dX5_workInTheShop_46 rfl (lv_at hl 3 rfl) ?_
      refine lv_iload_n hx hb dX5_workInTheShop_47 rfl (lv_at hl 2 rfl) ?_
      refine lv_icmp_ge (tgt := 72) hx hb dX5_workInTheShop_48 (by decide) (fun c_4 => ?_) (fun c_4 => absurd (nI_le (a := 10) (b := 10) (Nat.le_refl _) (by decide)) c_4)
      exact z_vret hx hb hr hlocks hH hS ⟨hRu, hFu⟩ (by decide) (by decide) dX5_workInTheShop_72
    · intro k hk ih u H locs ls hu hH hS hl
      obtain ⟨hRu, hFu⟩ := hu
      obtain ⟨hIX, hnX, -⟩ := mInv_same hinv (mSame_tr (sWorks_same B (nP B)) (sLeaves_same (sWorks B (nP B)) k))
      obtain ⟨-, hnX2, -⟩ := mInv_same hinv (mSame_tr (sWorks_same B (nP B)) (sLeaves_same (sWorks B (nP B)) (min k (nP B))))
      refine lv_iload_n hx hb dX5_workInTheShop_46 rfl (lv_at hl 3 rfl) ?_
      refine lv_iload_n hx hb dX5_workInTheShop_47 rfl (lv_at hl 2 rfl) ?_
      refine lv_icmp_ge (tgt := 72) hx hb dX5_workInTheShop_48 (by decide) (fun c_5 => absurd c_5 (nI_ge (b := 10) hk (by decide))) (fun c_5 => ?_)
      by_cases hkP : k < nP B
      · have hkX : k < nP (sLeaves (sWorks B (nP B)) k) := by rw [hnX]; exact hkP
        rw [mn0 hkP] at hRu
        have hR9 := hRu
        obtain ⟨⟨⟨k_x, i503, i504, i505⟩, ⟨p500, p501, p502⟩, k_A, n_A, k_O, n_O, k_T, n_T⟩, ⟨qA, qO, qT⟩, hTool, hPk, ⟨h200, h201, h202, h203, h204, h205, h206, h208, h209, h212, h213⟩, hPo, ⟨h301, h302, h303, hAc⟩, ⟨hOq, hOf⟩, hOr, hInj⟩ := hR9
        have q_k : zQ u (ad 7 0) k = some (ad 0 k) := by rw [qA k hk, if_pos hkX]
        obtain ⟨k_p, p207, p211, k_f, n_f, k_q, p300, k_r, n_r⟩ := hPk k hkX
        refine lv_aload_n hx hb dX5_workInTheShop_51 rfl (lv_at hl 1 rfl) ?_
        refine lv_iload_n hx hb dX5_workInTheShop_52 rfl (lv_at hl 3 rfl) ?_
        refine z_aald (v := (some (ad 0 k))) hx hb hA hH (zk0 k_A (by decide)) (zEn (zE_k12 k_A) n_A) 4 rfl k rfl (by omega) (by decide) q_k dX5_workInTheShop_53 ?_
        refine lv_astore (lv' := [(4, .ref (ad 0 k)), (0, .ref x), (1, .ref (ad 7 0)), (2, .int 10), (3, .int (nI k))]) hx hb dX5_workInTheShop_54 hl (by decide) rfl (fun ls hl => ?_)
        refine lv_aload hx hb dX5_workInTheShop_56 (lv_at hl 0 rfl) ?_
        refine lv_ifnull hx hb dX5_workInTheShop_58 ?_
        by_cases hon : (sLeaves (sWorks B (nP B)) k) 11 k = -1
        · have p210 : zP u 210 (ad 0 k) = none := by rw [hPo k hkX, if_pos hon]
          refine lv_aload hx hb dX5_workInTheShop_61 (lv_at hl 0 rfl) ?_
          refine z_callv (va_runV (As := []) (rest := []) ⟨hx, hb, hml, hown, hts⟩ (c2_leaveFin_n l D cy base u (ad 0 k) k_p p210) (cwV 0 hts gX5_workInTheShop_X2_leaveFinishedOrder rfl rfl rfl (by decide +kernel) ⟨Nat.le_of_ble_eq_true rfl, Nat.le_of_ble_eq_true rfl⟩) (z_preV hA hS hH (z_recv hA hH (zk0 k_p (by decide)) (zE_k3 k_p) (q := (RX2, TX2, 14)) rfl)) rfl rfl hl.1 rfl (lv_room (Nat.le_of_ble_eq_true rfl)) dX5_workInTheShop_63 ⟨Nat.le_of_ble_eq_true rfl, Nat.le_of_ble_eq_true rfl⟩) hS (fun u_k_6 H locs hw_k_6 hH hz_k_6 hS => ?_)
          have hu_k_6 := hw_k_6
          rw [hu_k_6] at hH
          refine lv_iinc (v := ((nI k) + 1)) (lv' := [(3, .int ((nI k) + 1)), (4, .ref (ad 0 k)), (0, .ref x), (1, .ref (ad 7 0)), (2, .int 10)]) hx hb dX5_workInTheShop_66 hl (k := 4) rfl rfl (by decide) rfl (fun ls hl => ?_)
          refine lv_goto (tgt := 46) hx hb dX5_workInTheShop_69 (by decide) ?_
          have hl_7 : lv_has ls 5 [(0, .ref x), (1, .ref (ad 7 0)), (2, .int 10), (3, .int ((nI k) + 1))] := lv_sub hl [2, 3, 4, 0] rfl
          rw [show (((nI k) + 1) : Int32) = (nI (k + 1)) from (nI_1 _)] at hl_7
          exact ih _ _ _ _ (by
            rw [mn1 hkP]
            have e9 : sLeaves (sWorks B (nP B)) (k + 1) = sLeaves (sWorks B (nP B)) k := rw_lv_n hon
            rw [e9]; exact ⟨hRu, hFu⟩) hH hS hl_7
        · have p210 : zP u 210 (ad 0 k) = some (ad 5 (ox (sLeaves (sWorks B (nP B)) k) k)) := by rw [hPo k hkX, if_neg hon]
          obtain ⟨hoe, hoj⟩ := (hIX.2.2.1 k hkX).2.2.2.2.resolve_left hon
          obtain ⟨k_o, i100, i101, p102, i103, i104, i105⟩ := hOr (ox (sLeaves (sWorks B (nP B)) k) k) hoj
          obtain ⟨k_t, i400, i401⟩ := hTool (kx (sLeaves (sWorks B (nP B)) k) (ox (sLeaves (sWorks B (nP B)) k) k)) (mInv_kx hIX hoj).2
          refine lv_aload hx hb dX5_workInTheShop_61 (lv_at hl 0 rfl) ?_
          refine z_callv (va_runV (As := []) (rest := []) ⟨hx, hb, hml, hown, hts⟩ (c2_leaveFin_s l D cy base u (ad 0 k) (ad 5 (ox (sLeaves (sWorks B (nP B)) k) k)) (ad 6 (kx (sLeaves (sWorks B (nP B)) k) (ox (sLeaves (sWorks B (nP B)) k) k))) k_p p210 k_o p102 k_t) (cwV 0 hts gX5_workInTheShop_X2_leaveFinishedOrder rfl rfl rfl (by decide +kernel) ⟨Nat.le_of_ble_eq_true rfl, Nat.le_of_ble_eq_true rfl⟩) (z_preV hA hS hH (z_recv hA hH (zk0 k_p (by decide)) (zE_k3 k_p) (q := (RX2, TX2, 14)) rfl)) rfl rfl hl.1 rfl (lv_room (Nat.le_of_ble_eq_true rfl)) dX5_workInTheShop_63 ⟨Nat.le_of_ble_eq_true rfl, Nat.le_of_ble_eq_true rfl⟩) hS (fun u_k_8 H locs hw_k_8 hH hz_k_8 hS => ?_)
          rcases hw_k_8 with ⟨h_k_8_0, hu_k_8⟩ | ⟨h_k_8_0, hu_k_8⟩
          · rw [hu_k_8] at hH
            have hz : (sLeaves (sWorks B (nP B)) k) 25 (ox (sLeaves (sWorks B (nP B)) k) k) = 0 := (le0_eq (K_leaves (K_works hK hinv (nP B) (Nat.le_refl _)) k).1 hoj).mp (by rw [← i104]; exact h_k_8_0)
            refine lv_iinc (v := ((nI k) + 1)) (lv' := [(3, .int ((nI k) + 1)), (4, .ref (ad 0 k)), (0, .ref x), (1, .ref (ad 7 0)), (2, .int 10)]) hx hb dX5_workInTheShop_66 hl (k := 4) rfl rfl (by decide) rfl (fun ls hl => ?_)
            refine lv_goto (tgt := 46) hx hb dX5_workInTheShop_69 (by decide) ?_
            have hl_9 : lv_has ls 5 [(0, .ref x), (1, .ref (ad 7 0)), (2, .int 10), (3, .int ((nI k) + 1))] := lv_sub hl [2, 3, 4, 0] rfl
            rw [show (((nI k) + 1) : Int32) = (nI (k + 1)) from (nI_1 _)] at hl_9
            exact ih _ _ _ _ (by
              rw [mn1 hkP]
              exact ⟨rw_lv_s hRu hIX hkX hon hz, (cP (k := 3) (cI (k := 5) (cI (k := 2) hFu k_o (by decide)) k_t (by decide)) k_p (by decide))⟩) hH hS hl_9
          · rw [hu_k_8] at hH
            have hz : ¬ (sLeaves (sWorks B (nP B)) k) 25 (ox (sLeaves (sWorks B (nP B)) k) k) = 0 := fun z => h_k_8_0 (by rw [i104]; exact (le0_eq (K_leaves (K_works hK hinv (nP B) (Nat.le_refl _)) k).1 hoj).mpr z)
            refine lv_iinc (v := ((nI k) + 1)) (lv' := [(3, .int ((nI k) + 1)), (4, .ref (ad 0 k)), (0, .ref x), (1, .ref (ad 7 0)), (2, .int 10)]) hx hb dX5_workInTheShop_66 hl (k := 4) rfl rfl (by decide) rfl (fun ls hl => ?_)
            refine lv_goto (tgt := 46) hx hb dX5_workInTheShop_69 (by decide) ?_
            have hl_10 : lv_has ls 5 [(0, .ref x), (1, .ref (ad 7 0)), (2, .int 10), (3, .int ((nI k) + 1))] := lv_sub hl [2, 3, 4, 0] rfl
            rw [show (((nI k) + 1) : Int32) = (nI (k + 1)) from (nI_1 _)] at hl_10
            exact ih _ _ _ _ (by
              rw [mn1 hkP]
              have e9 : sLeaves (sWorks B (nP B)) (k + 1) = sLeaves (sWorks B (nP B)) k := rw_lv_k hon hz
              rw [e9]; exact ⟨hRu, hFu⟩) hH hS hl_10
      · have hR9 := hRu
        obtain ⟨⟨⟨k_x, i503, i504, i505⟩, ⟨p500, p501, p502⟩, k_A, n_A, k_O, n_O, k_T, n_T⟩, ⟨qA, qO, qT⟩, hTool, hPk, ⟨h200, h201, h202, h203, h204, h205, h206, h208, h209, h212, h213⟩, hPo, ⟨h301, h302, h303, hAc⟩, ⟨hOq, hOf⟩, hOr, hInj⟩ := hR9
        have q_k : zQ u (ad 7 0) k = none := by rw [qA k hk, if_neg (by rw [hnX2]; exact hkP)]
        refine lv_aload_n hx hb dX5_workInTheShop_51 rfl (lv_at hl 1 rfl) ?_
        refine lv_iload_n hx hb dX5_workInTheShop_52 rfl (lv_at hl 3 rfl) ?_
        refine z_aald (v := none) hx hb hA hH (zk0 k_A (by decide)) (zEn (zE_k12 k_A) n_A) 4 rfl k rfl (by omega) (by decide) q_k dX5_workInTheShop_53 ?_
        refine lv_astoreN (lv' := [(4, .null), (0, .ref x), (1, .ref (ad 7 0)), (2, .int 10), (3, .int (nI k))]) hx hb dX5_workInTheShop_54 hl (by decide) rfl (fun ls hl => ?_)
        refine lv_aloadN hx hb dX5_workInTheShop_56 (lv_at hl 0 rfl) ?_
        refine lv_ifnullN (tgt := 66) hx hb dX5_workInTheShop_58 (by decide) ?_
        refine lv_iinc (v := ((nI k) + 1)) (lv' := [(3, .int ((nI k) + 1)), (4, .null), (0, .ref x), (1, .ref (ad 7 0)), (2, .int 10)]) hx hb dX5_workInTheShop_66 hl (k := 4) rfl rfl (by decide) rfl (fun ls hl => ?_)
        refine lv_goto (tgt := 46) hx hb dX5_workInTheShop_69 (by decide) ?_
        have hl_11 : lv_has ls 5 [(0, .ref x), (1, .ref (ad 7 0)), (2, .int 10), (3, .int ((nI k) + 1))] := lv_sub hl [2, 3, 4, 0] rfl
        rw [show (((nI k) + 1) : Int32) = (nI (k + 1)) from (nI_1 _)] at hl_11
        exact ih _ _ _ _ (by rw [mn2 hkP]; exact ⟨hRu, hFu⟩) hH hS hl_11
  · intro k hk ih u H locs ls hu hH hS hl
    obtain ⟨hRu, hFu⟩ := hu
    obtain ⟨hIX, hnX, -⟩ := mInv_same hinv (sWorks_same B k)
    obtain ⟨-, hnX2, -⟩ := mInv_same hinv (sWorks_same B (min k (nP B)))
    refine lv_iload_n hx hb dX5_workInTheShop_10 rfl (lv_at hl 3 rfl) ?_
    refine lv_iload_n hx hb dX5_workInTheShop_11 rfl (lv_at hl 2 rfl) ?_
    refine lv_icmp_ge (tgt := 36) hx hb dX5_workInTheShop_12 (by decide) (fun c_12 => absurd c_12 (nI_ge (b := 10) hk (by decide))) (fun c_12 => ?_)
    by_cases hkP : k < nP B
    · have hkX : k < nP (sWorks B k) := by rw [hnX]; exact hkP
      rw [mn0 hkP] at hRu
      have hR9 := hRu
      obtain ⟨⟨⟨k_x, i503, i504, i505⟩, ⟨p500, p501, p502⟩, k_A, n_A, k_O, n_O, k_T, n_T⟩, ⟨qA, qO, qT⟩, hTool, hPk, ⟨h200, h201, h202, h203, h204, h205, h206, h208, h209, h212, h213⟩, hPo, ⟨h301, h302, h303, hAc⟩, ⟨hOq, hOf⟩, hOr, hInj⟩ := hR9
      have q_k : zQ u (ad 7 0) k = some (ad 0 k) := by rw [qA k hk, if_pos hkX]
      obtain ⟨k_p, p207, p211, k_f, n_f, k_q, p300, k_r, n_r⟩ := hPk k hkX
      refine lv_aload_n hx hb dX5_workInTheShop_15 rfl (lv_at hl 1 rfl) ?_
      refine lv_iload_n hx hb dX5_workInTheShop_16 rfl (lv_at hl 3 rfl) ?_
      refine z_aald (v := (some (ad 0 k))) hx hb hA hH (zk0 k_A (by decide)) (zEn (zE_k12 k_A) n_A) 4 rfl k rfl (by omega) (by decide) q_k dX5_workInTheShop_17 ?_
      refine lv_astore (lv' := [(4, .ref (ad 0 k)), (0, .ref x), (1, .ref (ad 7 0)), (2, .int 10), (3, .int (nI k))]) hx hb dX5_workInTheShop_18 hl (by decide) rfl (fun ls hl => ?_)
      refine lv_aload hx hb dX5_workInTheShop_20 (lv_at hl 0 rfl) ?_
      refine lv_ifnull hx hb dX5_workInTheShop_22 ?_
      by_cases hon : (sWorks B k) 11 k = -1
      · have p210 : zP u 210 (ad 0 k) = none := by rw [hPo k hkX, if_pos hon]
        refine lv_aload hx hb dX5_workInTheShop_25 (lv_at hl 0 rfl) ?_
        refine z_callv (va_runV (As := []) (rest := []) ⟨hx, hb, hml, hown, hts⟩ (c2_workOneDay_n l D cy base u (ad 0 k) k_p p210) (cwV 0 hts gX5_workInTheShop_X2_workOneDay rfl rfl rfl (by decide +kernel) ⟨Nat.le_of_ble_eq_true rfl, Nat.le_of_ble_eq_true rfl⟩) (z_preV hA hS hH (z_recv hA hH (zk0 k_p (by decide)) (zE_k3 k_p) (q := (RX2, TX2, 14)) rfl)) rfl rfl hl.1 rfl (lv_room (Nat.le_of_ble_eq_true rfl)) dX5_workInTheShop_27 ⟨Nat.le_of_ble_eq_true rfl, Nat.le_of_ble_eq_true rfl⟩) hS (fun u_k_13 H locs hw_k_13 hH hz_k_13 hS => ?_)
        have hu_k_13 := hw_k_13
        rw [hu_k_13] at hH
        refine lv_iinc (v := ((nI k) + 1)) (lv' := [(3, .int ((nI k) + 1)), (4, .ref (ad 0 k)), (0, .ref x), (1, .ref (ad 7 0)), (2, .int 10)]) hx hb dX5_workInTheShop_30 hl (k := 4) rfl rfl (by decide) rfl (fun ls hl => ?_)
        refine lv_goto (tgt := 10) hx hb dX5_workInTheShop_33 (by decide) ?_
        have hl_14 : lv_has ls 5 [(0, .ref x), (1, .ref (ad 7 0)), (2, .int 10), (3, .int ((nI k) + 1))] := lv_sub hl [2, 3, 4, 0] rfl
        rw [show (((nI k) + 1) : Int32) = (nI (k + 1)) from (nI_1 _)] at hl_14
        exact ih _ _ _ _ (by
          rw [mn1 hkP]
          have e9 : sWorks B (k + 1) = sWorks B k := sWork_id (Or.inl hon)
          rw [e9]; exact ⟨hRu, hFu⟩) hH hS hl_14
      · have p210 : zP u 210 (ad 0 k) = some (ad 5 (ox (sWorks B k) k)) := by rw [hPo k hkX, if_neg hon]
        obtain ⟨hoe, hoj⟩ := (hIX.2.2.1 k hkX).2.2.2.2.resolve_left hon
        obtain ⟨k_o, i100, i101, p102, i103, i104, i105⟩ := hOr (ox (sWorks B k) k) hoj
        obtain ⟨k_t, i400, i401⟩ := hTool (kx (sWorks B k) (ox (sWorks B k) k)) (mInv_kx hIX hoj).2
        refine lv_aload hx hb dX5_workInTheShop_25 (lv_at hl 0 rfl) ?_
        refine z_callv (va_runV (As := []) (rest := []) ⟨hx, hb, hml, hown, hts⟩ (c2_workOneDay_s l D cy base u (ad 0 k) (ad 5 (ox (sWorks B k) k)) (ad 1 k) (ad 2 k) k_p p210 k_o p211 k_q p300 k_r n_r) (cwV 0 hts gX5_workInTheShop_X2_workOneDay rfl rfl rfl (by decide +kernel) ⟨Nat.le_of_ble_eq_true rfl, Nat.le_of_ble_eq_true rfl⟩) (z_preV hA hS hH (z_recv hA hH (zk0 k_p (by decide)) (zE_k3 k_p) (q := (RX2, TX2, 14)) rfl)) rfl rfl hl.1 rfl (lv_room (Nat.le_of_ble_eq_true rfl)) dX5_workInTheShop_27 ⟨Nat.le_of_ble_eq_true rfl, Nat.le_of_ble_eq_true rfl⟩) hS (fun u_k_15 H locs hw_k_15 hH hz_k_15 hS => ?_)
        rcases hw_k_15 with ⟨h_k_15_0, hu_k_15⟩ | ⟨h_k_15_0, hu_k_15⟩
        · rw [hu_k_15] at hH
          have hz : (sWorks B k) 25 (ox (sWorks B k) k) = 0 := (le0_eq (K_works hK hinv k (by omega)).1 hoj).mp (by rw [← i104]; exact h_k_15_0)
          refine lv_iinc (v := ((nI k) + 1)) (lv' := [(3, .int ((nI k) + 1)), (4, .ref (ad 0 k)), (0, .ref x), (1, .ref (ad 7 0)), (2, .int 10)]) hx hb dX5_workInTheShop_30 hl (k := 4) rfl rfl (by decide) rfl (fun ls hl => ?_)
          refine lv_goto (tgt := 10) hx hb dX5_workInTheShop_33 (by decide) ?_
          have hl_16 : lv_has ls 5 [(0, .ref x), (1, .ref (ad 7 0)), (2, .int 10), (3, .int ((nI k) + 1))] := lv_sub hl [2, 3, 4, 0] rfl
          rw [show (((nI k) + 1) : Int32) = (nI (k + 1)) from (nI_1 _)] at hl_16
          exact ih _ _ _ _ (by
            rw [mn1 hkP]
            have e9 : sWorks B (k + 1) = sWorks B k := sWork_id (Or.inr hz)
            rw [e9]; exact ⟨hRu, hFu⟩) hH hS hl_16
        · rw [hu_k_15] at hH
          have hz : ¬ (sWorks B k) 25 (ox (sWorks B k) k) = 0 := fun z => h_k_15_0 (by rw [i104]; exact (le0_eq (K_works hK hinv k (by omega)).1 hoj).mpr z)
          refine lv_iinc (v := ((nI k) + 1)) (lv' := [(3, .int ((nI k) + 1)), (4, .ref (ad 0 k)), (0, .ref x), (1, .ref (ad 7 0)), (2, .int 10)]) hx hb dX5_workInTheShop_30 hl (k := 4) rfl rfl (by decide) rfl (fun ls hl => ?_)
          refine lv_goto (tgt := 10) hx hb dX5_workInTheShop_33 (by decide) ?_
          have hl_17 : lv_has ls 5 [(0, .ref x), (1, .ref (ad 7 0)), (2, .int 10), (3, .int ((nI k) + 1))] := lv_sub hl [2, 3, 4, 0] rfl
          rw [show (((nI k) + 1) : Int32) = (nI (k + 1)) from (nI_1 _)] at hl_17
          exact ih _ _ _ _ (by
            rw [mn1 hkP]
            exact ⟨rw_work hRu hIX hkX hon hz, (cR (k := 15) (cR (k := 15) (cR (k := 15) (cR (k := 15) (cI (k := 3) (cI (k := 2) hFu k_o (by decide)) k_p (by decide)) k_r (by decide)) k_r (by decide)) k_r (by decide)) k_r (by decide))⟩) hH hS hl_17
    · have hR9 := hRu
      obtain ⟨⟨⟨k_x, i503, i504, i505⟩, ⟨p500, p501, p502⟩, k_A, n_A, k_O, n_O, k_T, n_T⟩, ⟨qA, qO, qT⟩, hTool, hPk, ⟨h200, h201, h202, h203, h204, h205, h206, h208, h209, h212, h213⟩, hPo, ⟨h301, h302, h303, hAc⟩, ⟨hOq, hOf⟩, hOr, hInj⟩ := hR9
      have q_k : zQ u (ad 7 0) k = none := by rw [qA k hk, if_neg (by rw [hnX2]; exact hkP)]
      refine lv_aload_n hx hb dX5_workInTheShop_15 rfl (lv_at hl 1 rfl) ?_
      refine lv_iload_n hx hb dX5_workInTheShop_16 rfl (lv_at hl 3 rfl) ?_
      refine z_aald (v := none) hx hb hA hH (zk0 k_A (by decide)) (zEn (zE_k12 k_A) n_A) 4 rfl k rfl (by omega) (by decide) q_k dX5_workInTheShop_17 ?_
      refine lv_astoreN (lv' := [(4, .null), (0, .ref x), (1, .ref (ad 7 0)), (2, .int 10), (3, .int (nI k))]) hx hb dX5_workInTheShop_18 hl (by decide) rfl (fun ls hl => ?_)
      refine lv_aloadN hx hb dX5_workInTheShop_20 (lv_at hl 0 rfl) ?_
      refine lv_ifnullN (tgt := 30) hx hb dX5_workInTheShop_22 (by decide) ?_
      refine lv_iinc (v := ((nI k) + 1)) (lv' := [(3, .int ((nI k) + 1)), (4, .null), (0, .ref x), (1, .ref (ad 7 0)), (2, .int 10)]) hx hb dX5_workInTheShop_30 hl (k := 4) rfl rfl (by decide) rfl (fun ls hl => ?_)
      refine lv_goto (tgt := 10) hx hb dX5_workInTheShop_33 (by decide) ?_
      have hl_18 : lv_has ls 5 [(0, .ref x), (1, .ref (ad 7 0)), (2, .int 10), (3, .int ((nI k) + 1))] := lv_sub hl [2, 3, 4, 0] rfl
      rw [show (((nI k) + 1) : Int32) = (nI (k + 1)) from (nI_1 _)] at hl_18
      exact ih _ _ _ _ (by rw [mn2 hkP]; exact ⟨hRu, hFu⟩) hH hS hl_18
set_option maxHeartbeats 4000000 in
set_option maxRecDepth 100000 in
theorem c5_goes (l : Launch) (D : va_G) (cy : Nat → ClassId) (base : Nat) (w : zW) (x : Nat) (ad : Nat → Nat → Nat) (B : mB) (hR : rAll w x ad B) (hinv : mInv B) (hK : mK B) : Met l yX5_letGoThoseDue wsX5_letGoThoseDue ({ frames := 3, cells := 0, slots := 0, locals := 71 }) (zPc D cy base (zH D cy base) [.ref x] w) (zQi base (zH D cy base) (fun (r0 : Int32) (u0 : zW) => r0 = sGoesN B 0 (nP B) ∧ rAll u0 x ad (sGoes B (nP B)) ∧ cFr w u0)) 0 0 (fun q => base ≤ q) := by
  refine Met.ofW (cc := cX5_letGoThoseDue) (maxL := 6) (ret := (some .int)) (by decide) rfl ?_
  intro p e s m args below meth c s₁ B9 hml hv
  obtain ⟨rfl, hA, hH⟩ := hv
  have hx := B9.exec
  have hb := B9.bytes
  have hr := B9.returns
  have hts := atoms_spec (ws := wsX5_letGoThoseDue) B9.pre
  have hown : s.vm.findClass RX5 = some m.cls := findClass_of_methodNamed B9.named
  have hlocks := B9.notSynchronized
  have hi5 : ∀ w ∈ wsX50, w ∈ wsX5_letGoThoseDue := by decide +kernel
  have hS : va_S (fun q : Nat => base ≤ q) s.heap s.heap [] := va_S.rf
  have hl := lv_entry ([.ref x]) (n := 6) (Nat.le_of_ble_eq_true rfl)
  rw [lg_entry_eq]
  generalize (lg_sl ([.ref x]) ++ List.replicate (6 - (lg_sl ([.ref x])).length) Slot.unset).toArray = ls at hl ⊢
  have hl : lv_has ls 6 [(0, .ref x)] := hl
  have hR9 := hR
  obtain ⟨⟨⟨k_x, i503, i504, i505⟩, ⟨p500, p501, p502⟩, k_A, n_A, k_O, n_O, k_T, n_T⟩, ⟨qA, qO, qT⟩, hTool, hPk, ⟨h200, h201, h202, h203, h204, h205, h206, h208, h209, h212, h213⟩, hPo, ⟨h301, h302, h303, hAc⟩, ⟨hOq, hOf⟩, hOr, hInj⟩ := hR9
  refine lv_iconst (v := 0) hx hb dX5_letGoThoseDue_0 (by decide) ?_
  refine lv_istore_n (lv' := [(1, .int 0), (0, .ref x)]) hx hb dX5_letGoThoseDue_1 rfl hl (by decide) rfl (fun ls hl => ?_)
  refine lv_aload_n hx hb dX5_letGoThoseDue_2 rfl (lv_at hl 1 rfl) ?_
  refine z_get (C := RX5) (T := TX5) (N := 6) (ci := 5) (index := 11) (v := .ref (ad 7 0)) hx hb hts hi5 hown hA hH (zk0 k_x (by decide)) (zE_k6 k_x) rfl 0 (by decide) (hts (.fieldLink RX5 11 "ParoleCards" "people" "[LParoleCards$Person;") (by decide +kernel)) (fun _ h9 => h9) (congrArg (fun z => some (va_rf z)) p500) dX5_letGoThoseDue_3 ?_
  refine lv_astore_n (lv' := [(2, .ref (ad 7 0)), (1, .int 0), (0, .ref x)]) hx hb dX5_letGoThoseDue_6 rfl hl (by decide) rfl (fun ls hl => ?_)
  refine lv_aload_n hx hb dX5_letGoThoseDue_7 rfl (lv_at hl 0 rfl) ?_
  refine z_alen (v := 10) hx hb hA hH (zk0 k_A (by decide)) (zE_k12 k_A) 4 rfl (congrArg Int32.ofNat n_A) dX5_letGoThoseDue_8 ?_
  refine lv_istore_n (lv' := [(3, .int 10), (2, .ref (ad 7 0)), (1, .int 0), (0, .ref x)]) hx hb dX5_letGoThoseDue_9 rfl hl (by decide) rfl (fun ls hl => ?_)
  refine lv_iconst (v := 0) hx hb dX5_letGoThoseDue_10 (by decide) ?_
  refine lv_istore (lv' := [(4, .int 0), (3, .int 10), (2, .ref (ad 7 0)), (1, .int 0), (0, .ref x)]) hx hb dX5_letGoThoseDue_11 hl (by decide) rfl (fun ls hl => ?_)
  have hl_1 : lv_has ls 6 [(0, .ref x), (1, .int 0), (2, .ref (ad 7 0)), (3, .int 10), (4, .int 0)] := lv_sub hl [4, 3, 2, 1, 0] rfl
  rw [show (0 : Int32) = (sGoesN B 0 (min 0 (nP B))) from (by rw [Nat.zero_min]; rfl)] at hl_1
  rw [show (0 : Int32) = (nI 0) from rfl] at hl_1
  refine z_for (nL := 6) (10) (fun k (u : zW) => rAll u x ad (sGoes B (min k (nP B))) ∧ cFr w u) (fun k _ => [(0, .ref x), (1, .int (sGoesN B 0 (min k (nP B)))), (2, .ref (ad 7 0)), (3, .int 10), (4, .int (nI k))]) 0 (Nat.zero_le _) (u := w) ⟨by rw [Nat.zero_min]; exact hR, cFr_rf _⟩ hH hS hl_1 ?_ ?_
  · intro u H locs ls hu hH hS hl
    obtain ⟨hRu, hFu⟩ := hu
    rw [mn10 hinv.1.1] at hRu hl
    refine lv_iload hx hb dX5_letGoThoseDue_13 (lv_at hl 4 rfl) ?_
    refine lv_iload_n hx hb dX5_letGoThoseDue_15 rfl (lv_at hl 3 rfl) ?_
    refine lv_icmp_ge (tgt := 60) hx hb dX5_letGoThoseDue_16 (by decide) (fun c_2 => ?_) (fun c_2 => absurd (nI_le (a := 10) (b := 10) (Nat.le_refl _) (by decide)) c_2)
    refine lv_iload_n hx hb dX5_letGoThoseDue_60 rfl (lv_at hl 1 rfl) ?_
    exact z_iret hx hb hr hlocks hH hS ⟨rfl, hRu, hFu⟩ (by decide) (by decide) dX5_letGoThoseDue_61
  · intro k hk ih u H locs ls hu hH hS hl
    obtain ⟨hRu, hFu⟩ := hu
    obtain ⟨hIX, hnX, -⟩ := mInv_same hinv (sGoes_same B k)
    obtain ⟨-, hnX2, -⟩ := mInv_same hinv (sGoes_same B (min k (nP B)))
    refine lv_iload hx hb dX5_letGoThoseDue_13 (lv_at hl 4 rfl) ?_
    refine lv_iload_n hx hb dX5_letGoThoseDue_15 rfl (lv_at hl 3 rfl) ?_
    refine lv_icmp_ge (tgt := 60) hx hb dX5_letGoThoseDue_16 (by decide) (fun c_3 => absurd c_3 (nI_ge (b := 10) hk (by decide))) (fun c_3 => ?_)
    by_cases hkP : k < nP B
    · have hkX : k < nP (sGoes B k) := by rw [hnX]; exact hkP
      rw [mn0 hkP] at hRu hl
      have hR9 := hRu
      obtain ⟨⟨⟨k_x, i503, i504, i505⟩, ⟨p500, p501, p502⟩, k_A, n_A, k_O, n_O, k_T, n_T⟩, ⟨qA, qO, qT⟩, hTool, hPk, ⟨h200, h201, h202, h203, h204, h205, h206, h208, h209, h212, h213⟩, hPo, ⟨h301, h302, h303, hAc⟩, ⟨hOq, hOf⟩, hOr, hInj⟩ := hR9
      have q_k : zQ u (ad 7 0) k = some (ad 0 k) := by rw [qA k hk, if_pos hkX]
      obtain ⟨k_p, p207, p211, k_f, n_f, k_q, p300, k_r, n_r⟩ := hPk k hkX
      refine lv_aload_n hx hb dX5_letGoThoseDue_19 rfl (lv_at hl 2 rfl) ?_
      refine lv_iload hx hb dX5_letGoThoseDue_20 (lv_at hl 4 rfl) ?_
      refine z_aald (v := (some (ad 0 k))) hx hb hA hH (zk0 k_A (by decide)) (zEn (zE_k12 k_A) n_A) 4 rfl k rfl (by omega) (by decide) q_k dX5_letGoThoseDue_22 ?_
      refine lv_astore (lv' := [(5, .ref (ad 0 k)), (0, .ref x), (1, .int (sGoesN B 0 k)), (2, .ref (ad 7 0)), (3, .int 10), (4, .int (nI k))]) hx hb dX5_letGoThoseDue_23 hl (by decide) rfl (fun ls hl => ?_)
      refine lv_aload hx hb dX5_letGoThoseDue_25 (lv_at hl 0 rfl) ?_
      refine lv_ifnull hx hb dX5_letGoThoseDue_27 ?_
      refine lv_aload hx hb dX5_letGoThoseDue_30 (lv_at hl 0 rfl) ?_
      refine lv_aload_n hx hb dX5_letGoThoseDue_32 rfl (lv_at hl 1 rfl) ?_
      refine z_get (C := RX5) (T := TX5) (N := 6) (ci := 5) (index := 43) (v := .int (zI u 505 x)) hx hb hts hi5 hown hA hH (zk0 k_x (by decide)) (zE_k6 k_x) rfl 5 (by decide) (hts (.fieldLink RX5 43 "ParoleCards" "today" "I") (by decide +kernel)) (fun _ h9 => h9) rfl dX5_letGoThoseDue_33 ?_
      refine z_calli (va_runV (As := [.int (zI u 505 x)]) (rest := []) ⟨hx, hb, hml, hown, hts⟩ (c2_isDue l D cy base u (ad 0 k) (zI u 505 x) k_p) (cwV 1 hts gX5_letGoThoseDue_X2_isDue rfl rfl rfl (by decide +kernel) ⟨Nat.le_of_ble_eq_true rfl, Nat.le_of_ble_eq_true rfl⟩) (z_preV hA hS hH (z_recv hA hH (zk0 k_p (by decide)) (zE_k3 k_p) (q := (RX2, TX2, 14)) rfl)) rfl rfl hl.1 rfl (lv_room (Nat.le_of_ble_eq_true rfl)) dX5_letGoThoseDue_36 ⟨Nat.le_of_ble_eq_true rfl, Nat.le_of_ble_eq_true rfl⟩) hS (fun r_k_4 u_k_4 H locs hw_k_4 hH hz_k_4 hS => ?_)
      rcases hw_k_4 with ⟨h_k_4_0, rfl, hu_k_4⟩ | ⟨h_k_4_0, h_k_4_1, rfl, hu_k_4⟩ | ⟨h_k_4_0, h_k_4_1, rfl, hu_k_4⟩
      · rw [hu_k_4] at hH
        have hSt : sStays (sGoes B k) k := Or.inl (fun z => h_k_4_0 ((h212 k hkX).trans z))
        refine lv_if_eq (tgt := 54) hx hb dX5_letGoThoseDue_39 (by decide) (fun _ => ?_) (fun c_5 => absurd c_5 (by decide))
        refine lv_iinc (v := ((nI k) + 1)) (lv' := [(4, .int ((nI k) + 1)), (5, .ref (ad 0 k)), (0, .ref x), (1, .int (sGoesN B 0 k)), (2, .ref (ad 7 0)), (3, .int 10)]) hx hb dX5_letGoThoseDue_54 hl (k := 5) rfl rfl (by decide) rfl (fun ls hl => ?_)
        refine lv_goto (tgt := 13) hx hb dX5_letGoThoseDue_57 (by decide) ?_
        have hl_6 : lv_has ls 6 [(0, .ref x), (1, .int (sGoesN B 0 k)), (2, .ref (ad 7 0)), (3, .int 10), (4, .int ((nI k) + 1))] := lv_sub hl [2, 3, 4, 5, 0] rfl
        rw [show ((sGoesN B 0 k) : Int32) = (sGoesN B 0 (min (k + 1) (nP B))) from (by
          rw [mn1 hkP]
          show _ = sGoesN B 0 k + sGoN (sGoes B k) k
          rw [(sGo_no hSt).2]; exact (Int32.add_zero _).symm)] at hl_6
        rw [show (((nI k) + 1) : Int32) = (nI (k + 1)) from (nI_1 _)] at hl_6
        exact ih _ _ _ _ (by
          rw [mn1 hkP]
          have e9 : sGoes B (k + 1) = sGoes B k := (sGo_no hSt).1
          rw [e9]; exact ⟨hRu, hFu⟩) hH hS hl_6
      · rw [hu_k_4] at hH
        have h2X : (sGoes B k) 2 k = 0 := (h212 k hkX).symm.trans h_k_4_0
        have hRl := (rel_of hRu hkX).1 h2X
        have hDue : sRel (sGoes B k) k ≤ (sGoes B k) 0 0 := by rw [← hRl, ← i505]; exact h_k_4_1
        refine lv_if_eq (tgt := 54) hx hb dX5_letGoThoseDue_39 (by decide) (fun c_7 => absurd c_7 (by decide)) (fun _ => ?_)
        by_cases hon : (sGoes B k) 11 k = -1
        · have p210 : zP u 210 (ad 0 k) = none := by rw [hPo k hkX, if_pos hon]
          refine lv_aload hx hb dX5_letGoThoseDue_42 (lv_at hl 0 rfl) ?_
          refine lv_aload_n hx hb dX5_letGoThoseDue_44 rfl (lv_at hl 1 rfl) ?_
          refine z_get (C := RX5) (T := TX5) (N := 6) (ci := 5) (index := 43) (v := .int (zI u 505 x)) hx hb hts hi5 hown hA hH (zk0 k_x (by decide)) (zE_k6 k_x) rfl 5 (by decide) (hts (.fieldLink RX5 43 "ParoleCards" "today" "I") (by decide +kernel)) (fun _ h9 => h9) rfl dX5_letGoThoseDue_45 ?_
          refine z_callv (va_runV (As := [.int (zI u 505 x)]) (rest := []) ⟨hx, hb, hml, hown, hts⟩ (c2_letGo_n l D cy base u (ad 0 k) (zI u 505 x) (ad 1 k) (ad 2 k) k_p p210 p211 k_q p300 k_r n_r) (cwV 1 hts gX5_letGoThoseDue_X2_letGo rfl rfl rfl (by decide +kernel) ⟨Nat.le_of_ble_eq_true rfl, Nat.le_of_ble_eq_true rfl⟩) (z_preV hA hS hH (z_recv hA hH (zk0 k_p (by decide)) (zE_k3 k_p) (q := (RX2, TX2, 14)) rfl)) rfl rfl hl.1 rfl (lv_room (Nat.le_of_ble_eq_true rfl)) dX5_letGoThoseDue_48 ⟨Nat.le_of_ble_eq_true rfl, Nat.le_of_ble_eq_true rfl⟩) hS (fun u_k_8 H locs hw_k_8 hH hz_k_8 hS => ?_)
          have hu_k_8 := hw_k_8
          rw [hu_k_8] at hH
          refine lv_iinc (v := ((sGoesN B 0 k) + 1)) (lv' := [(1, .int ((sGoesN B 0 k) + 1)), (5, .ref (ad 0 k)), (0, .ref x), (2, .ref (ad 7 0)), (3, .int 10), (4, .int (nI k))]) hx hb dX5_letGoThoseDue_51 hl (k := 2) rfl rfl (by decide) rfl (fun ls hl => ?_)
          refine lv_iinc (v := ((nI k) + 1)) (lv' := [(4, .int ((nI k) + 1)), (1, .int ((sGoesN B 0 k) + 1)), (5, .ref (ad 0 k)), (0, .ref x), (2, .ref (ad 7 0)), (3, .int 10)]) hx hb dX5_letGoThoseDue_54 hl (k := 5) rfl rfl (by decide) rfl (fun ls hl => ?_)
          refine lv_goto (tgt := 13) hx hb dX5_letGoThoseDue_57 (by decide) ?_
          have hl_9 : lv_has ls 6 [(0, .ref x), (1, .int ((sGoesN B 0 k) + 1)), (2, .ref (ad 7 0)), (3, .int 10), (4, .int ((nI k) + 1))] := lv_sub hl [3, 1, 4, 5, 0] rfl
          rw [show (((sGoesN B 0 k) + 1) : Int32) = (sGoesN B 0 (min (k + 1) (nP B))) from (by
            rw [mn1 hkP]
            show _ = sGoesN B 0 k + sGoN (sGoes B k) k
            rw [(sGo_yes h2X hDue).1])] at hl_9
          rw [show (((nI k) + 1) : Int32) = (nI (k + 1)) from (nI_1 _)] at hl_9
          exact ih _ _ _ _ (by
            rw [mn1 hkP]
            exact ⟨rw_go_n hRu hkX hon h2X hDue i505, (cI (k := 3) (cI (k := 3) (cR (k := 15) (cR (k := 15) (cI (k := 4) hFu k_q (by decide)) k_r (by decide)) k_r (by decide)) k_p (by decide)) k_p (by decide))⟩) hH hS hl_9
        · have p210 : zP u 210 (ad 0 k) = some (ad 5 (ox (sGoes B k) k)) := by rw [hPo k hkX, if_neg hon]
          obtain ⟨hoe, hoj⟩ := (hIX.2.2.1 k hkX).2.2.2.2.resolve_left hon
          obtain ⟨k_o, i100, i101, p102, i103, i104, i105⟩ := hOr (ox (sGoes B k) k) hoj
          obtain ⟨k_t, i400, i401⟩ := hTool (kx (sGoes B k) (ox (sGoes B k) k)) (mInv_kx hIX hoj).2
          refine lv_aload hx hb dX5_letGoThoseDue_42 (lv_at hl 0 rfl) ?_
          refine lv_aload_n hx hb dX5_letGoThoseDue_44 rfl (lv_at hl 1 rfl) ?_
          refine z_get (C := RX5) (T := TX5) (N := 6) (ci := 5) (index := 43) (v := .int (zI u 505 x)) hx hb hts hi5 hown hA hH (zk0 k_x (by decide)) (zE_k6 k_x) rfl 5 (by decide) (hts (.fieldLink RX5 43 "ParoleCards" "today" "I") (by decide +kernel)) (fun _ h9 => h9) rfl dX5_letGoThoseDue_45 ?_
          refine z_callv (va_runV (As := [.int (zI u 505 x)]) (rest := []) ⟨hx, hb, hml, hown, hts⟩ (c2_letGo_s l D cy base u (ad 0 k) (zI u 505 x) (ad 5 (ox (sGoes B k) k)) (ad 6 (kx (sGoes B k) (ox (sGoes B k) k))) (ad 1 k) (ad 2 k) k_p p210 k_o p102 k_t p211 k_q p300 k_r n_r) (cwV 1 hts gX5_letGoThoseDue_X2_letGo rfl rfl rfl (by decide +kernel) ⟨Nat.le_of_ble_eq_true rfl, Nat.le_of_ble_eq_true rfl⟩) (z_preV hA hS hH (z_recv hA hH (zk0 k_p (by decide)) (zE_k3 k_p) (q := (RX2, TX2, 14)) rfl)) rfl rfl hl.1 rfl (lv_room (Nat.le_of_ble_eq_true rfl)) dX5_letGoThoseDue_48 ⟨Nat.le_of_ble_eq_true rfl, Nat.le_of_ble_eq_true rfl⟩) hS (fun u_k_10 H locs hw_k_10 hH hz_k_10 hS => ?_)
          have hu_k_10 := hw_k_10
          rw [hu_k_10] at hH
          refine lv_iinc (v := ((sGoesN B 0 k) + 1)) (lv' := [(1, .int ((sGoesN B 0 k) + 1)), (5, .ref (ad 0 k)), (0, .ref x), (2, .ref (ad 7 0)), (3, .int 10), (4, .int (nI k))]) hx hb dX5_letGoThoseDue_51 hl (k := 2) rfl rfl (by decide) rfl (fun ls hl => ?_)
          refine lv_iinc (v := ((nI k) + 1)) (lv' := [(4, .int ((nI k) + 1)), (1, .int ((sGoesN B 0 k) + 1)), (5, .ref (ad 0 k)), (0, .ref x), (2, .ref (ad 7 0)), (3, .int 10)]) hx hb dX5_letGoThoseDue_54 hl (k := 5) rfl rfl (by decide) rfl (fun ls hl => ?_)
          refine lv_goto (tgt := 13) hx hb dX5_letGoThoseDue_57 (by decide) ?_
          have hl_11 : lv_has ls 6 [(0, .ref x), (1, .int ((sGoesN B 0 k) + 1)), (2, .ref (ad 7 0)), (3, .int 10), (4, .int ((nI k) + 1))] := lv_sub hl [3, 1, 4, 5, 0] rfl
          rw [show (((sGoesN B 0 k) + 1) : Int32) = (sGoesN B 0 (min (k + 1) (nP B))) from (by
            rw [mn1 hkP]
            show _ = sGoesN B 0 k + sGoN (sGoes B k) k
            rw [(sGo_yes h2X hDue).1])] at hl_11
          rw [show (((nI k) + 1) : Int32) = (nI (k + 1)) from (nI_1 _)] at hl_11
          exact ih _ _ _ _ (by
            rw [mn1 hkP]
            exact ⟨rw_go_s hRu hIX hkX hon h2X hDue i505, (cI (k := 3) (cI (k := 3) (cR (k := 15) (cR (k := 15) (cI (k := 4) (cP (k := 3) (cI (k := 5) (cI (k := 2) hFu k_o (by decide)) k_t (by decide)) k_p (by decide)) k_q (by decide)) k_r (by decide)) k_r (by decide)) k_p (by decide)) k_p (by decide))⟩) hH hS hl_11
      · rw [hu_k_4] at hH
        have h2X : (sGoes B k) 2 k = 0 := (h212 k hkX).symm.trans h_k_4_0
        have hRl := (rel_of hRu hkX).1 h2X
        have hSt : sStays (sGoes B k) k := Or.inr (fun z => h_k_4_1 (by rw [hRl, i505]; exact z))
        refine lv_if_eq (tgt := 54) hx hb dX5_letGoThoseDue_39 (by decide) (fun _ => ?_) (fun c_12 => absurd c_12 (by decide))
        refine lv_iinc (v := ((nI k) + 1)) (lv' := [(4, .int ((nI k) + 1)), (5, .ref (ad 0 k)), (0, .ref x), (1, .int (sGoesN B 0 k)), (2, .ref (ad 7 0)), (3, .int 10)]) hx hb dX5_letGoThoseDue_54 hl (k := 5) rfl rfl (by decide) rfl (fun ls hl => ?_)
        refine lv_goto (tgt := 13) hx hb dX5_letGoThoseDue_57 (by decide) ?_
        have hl_13 : lv_has ls 6 [(0, .ref x), (1, .int (sGoesN B 0 k)), (2, .ref (ad 7 0)), (3, .int 10), (4, .int ((nI k) + 1))] := lv_sub hl [2, 3, 4, 5, 0] rfl
        rw [show ((sGoesN B 0 k) : Int32) = (sGoesN B 0 (min (k + 1) (nP B))) from (by
          rw [mn1 hkP]
          show _ = sGoesN B 0 k + sGoN (sGoes B k) k
          rw [(sGo_no hSt).2]; exact (Int32.add_zero _).symm)] at hl_13
        rw [show (((nI k) + 1) : Int32) = (nI (k + 1)) from (nI_1 _)] at hl_13
        exact ih _ _ _ _ (by
          rw [mn1 hkP]
          have e9 : sGoes B (k + 1) = sGoes B k := (sGo_no hSt).1
          rw [e9]; exact ⟨hRu, hFu⟩) hH hS hl_13
    · have hR9 := hRu
      obtain ⟨⟨⟨k_x, i503, i504, i505⟩, ⟨p500, p501, p502⟩, k_A, n_A, k_O, n_O, k_T, n_T⟩, ⟨qA, qO, qT⟩, hTool, hPk, ⟨h200, h201, h202, h203, h204, h205, h206, h208, h209, h212, h213⟩, hPo, ⟨h301, h302, h303, hAc⟩, ⟨hOq, hOf⟩, hOr, hInj⟩ := hR9
      have q_k : zQ u (ad 7 0) k = none := by rw [qA k hk, if_neg (by rw [hnX2]; exact hkP)]
      refine lv_aload_n hx hb dX5_letGoThoseDue_19 rfl (lv_at hl 2 rfl) ?_
      refine lv_iload hx hb dX5_letGoThoseDue_20 (lv_at hl 4 rfl) ?_
      refine z_aald (v := none) hx hb hA hH (zk0 k_A (by decide)) (zEn (zE_k12 k_A) n_A) 4 rfl k rfl (by omega) (by decide) q_k dX5_letGoThoseDue_22 ?_
      refine lv_astoreN (lv' := [(5, .null), (0, .ref x), (1, .int (sGoesN B 0 (min k (nP B)))), (2, .ref (ad 7 0)), (3, .int 10), (4, .int (nI k))]) hx hb dX5_letGoThoseDue_23 hl (by decide) rfl (fun ls hl => ?_)
      refine lv_aloadN hx hb dX5_letGoThoseDue_25 (lv_at hl 0 rfl) ?_
      refine lv_ifnullN (tgt := 54) hx hb dX5_letGoThoseDue_27 (by decide) ?_
      refine lv_iinc (v := ((nI k) + 1)) (lv' := [(4, .int ((nI k) + 1)), (5, .null), (0, .ref x), (1, .int (sGoesN B 0 (min k (nP B)))), (2, .ref (ad 7 0)), (3, .int 10)]) hx hb dX5_letGoThoseDue_54 hl (k := 5) rfl rfl (by decide) rfl (fun ls hl => ?_)
      refine lv_goto (tgt := 13) hx hb dX5_letGoThoseDue_57 (by decide) ?_
      have hl_14 : lv_has ls 6 [(0, .ref x), (1, .int (sGoesN B 0 (min k (nP B)))), (2, .ref (ad 7 0)), (3, .int 10), (4, .int ((nI k) + 1))] := lv_sub hl [2, 3, 4, 5, 0] rfl
      rw [show ((sGoesN B 0 (min k (nP B))) : Int32) = (sGoesN B 0 (min (k + 1) (nP B))) from (by rw [mn2 hkP])] at hl_14
      rw [show (((nI k) + 1) : Int32) = (nI (k + 1)) from (nI_1 _)] at hl_14
      exact ih _ _ _ _ (by rw [mn2 hkP]; exact ⟨hRu, hFu⟩) hH hS hl_14
def thrP (cd : Int32) (E : String) : Prop := cd = 1 ∧ E = zIae
set_option maxHeartbeats 4000000 in
set_option maxRecDepth 100000 in
theorem c5_pass (l : Launch) (hl9 : l.stackTraces = false) (D : va_G) (cy : Nat → ClassId) (base : Nat) (w : zW) (x : Nat) (ad : Nat → Nat → Nat) (B : mB) (d : Int32) (hR : rAll w x ad B) (hinv : mInv B) (hinv2 : mInv2 B) (hinv3 : mInv3 B) : vx_Met l yX5_pass wsX5_pass ({ frames := 7, cells := 1, slots := 6, locals := 112 }) (zPc D cy base (zH D cy base) [.ref x, .int d] w) (zQi base (zH D cy base) (fun (r0 : Int32) (u0 : zW) => (cd_pass B d) = 0 ∧ r0 = (an_pass B d) ∧ Rep u0 x (up_pass B d) ∧ cFr w u0)) (zXC base (zH D cy base) (fun (E : String) (u0 : zW) => thrP (cd_pass B d) E ∧ u0 = w)) 1 6 (fun q => base ≤ q) := by
  refine vx_ofW (cc := cX5_pass) (maxL := 4) (ret := (some .int)) (by decide) rfl ?_
  intro p e s m args below meth c s₁ B9 hml htab hv
  obtain ⟨rfl, hA, hH⟩ := hv
  have hx := B9.exec
  have hb := B9.bytes
  have hr := B9.returns
  have hts := atoms_spec (ws := wsX5_pass) B9.pre
  have hown : s.vm.findClass RX5 = some m.cls := findClass_of_methodNamed B9.named
  have hlocks := B9.notSynchronized
  have hi5 : ∀ w ∈ wsX50, w ∈ wsX5_pass := by decide +kernel
  have hS : va_S (fun q : Nat => base ≤ q) s.heap s.heap [] := va_S.rf
  have hl := lv_entry ([.ref x, .int d]) (n := 4) (Nat.le_of_ble_eq_true rfl)
  rw [lg_entry_eq]
  generalize (lg_sl ([.ref x, .int d]) ++ List.replicate (4 - (lg_sl ([.ref x, .int d])).length) Slot.unset).toArray = ls at hl ⊢
  have hl : lv_has ls 4 [(0, .ref x), (1, .int d)] := hl
  have hR9 := hR
  obtain ⟨⟨⟨k_x, i503, i504, i505⟩, ⟨p500, p501, p502⟩, k_A, n_A, k_O, n_O, k_T, n_T⟩, ⟨qA, qO, qT⟩, hTool, hPk, ⟨h200, h201, h202, h203, h204, h205, h206, h208, h209, h212, h213⟩, hPo, ⟨h301, h302, h303, hAc⟩, ⟨hOq, hOf⟩, hOr, hInj⟩ := hR9
  rcases vDays_split d with ⟨q, rfl, hq, hvD, hqx⟩ | hvD
  · refine lv_iload_n hx hb dX5_pass_0 rfl (lv_at hl 1 rfl) ?_
    refine lv_iconst (v := 1) hx hb dX5_pass_1 (by decide) ?_
    refine lv_bipush (v := 100) hx hb dX5_pass_2 (by decide) ?_
    refine z_xcallv (vx_runS (As := [.int (nI q), .int 1, .int 100]) (rest := []) ⟨hx, hb, hml, hown, hts⟩ (c5_checkRange l hl9 D cy base w (nI q) 1 100 ) (va_cwS 3 hts gX5_pass_X5_checkRange rfl rfl rfl (by decide +kernel) ⟨Nat.le_of_ble_eq_true rfl, Nat.le_of_ble_eq_true rfl⟩) (z_preS hA hS hH) rfl rfl hl.1 rfl (lv_room (Nat.le_of_ble_eq_true rfl)) dX5_pass_4 ⟨Nat.le_of_ble_eq_true rfl, Nat.le_of_ble_eq_true rfl⟩) hS (fun E_k_1 ce_k_1 q9_k_1 u_k_1 H locs hw_k_1 hH hz_k_1 hS hce_k_1 hv_k_1 hcl_k_1 => ?_) (fun u_k_1 H locs hw_k_1 hH hz_k_1 hS => ?_)
    · obtain ⟨t_k_1_0, rfl, hu_k_1⟩ := hw_k_1
      rw [hu_k_1] at hH
      exact z_out htab hlocks hH hS hce_k_1 hv_k_1 hcl_k_1 (by
        have hc : (cd_pass B (nI q)) = 1 := by first | (simp [cd_pass, t_k_1_0, hvD, hqx]; done) | (simp_all [cd_pass]; done)
        exact ⟨⟨hc, rfl⟩, rfl⟩) (by decide) (by decide)
    · rcases hw_k_1 with ⟨h_k_1_0, hu_k_1⟩
      rw [hu_k_1] at hH
      refine lv_iconst (v := 0) hx hb dX5_pass_7 (by decide) ?_
      refine lv_istore_n (lv' := [(2, .int 0), (0, .ref x), (1, .int (nI q))]) hx hb dX5_pass_8 rfl hl (by decide) rfl (fun ls hl => ?_)
      refine lv_iconst (v := 0) hx hb dX5_pass_9 (by decide) ?_
      refine lv_istore_n (lv' := [(3, .int 0), (2, .int 0), (0, .ref x), (1, .int (nI q))]) hx hb dX5_pass_10 rfl hl (by decide) rfl (fun ls hl => ?_)
      have hl_2 : lv_has ls 4 [(0, .ref x), (1, .int (nI q)), (2, .int 0), (3, .int 0)] := lv_sub hl [2, 3, 1, 0] rfl
      have hl_2 : lv_has ls 4 [(0, .ref x), (1, .int (nI q)), (2, .int (sDaysN B 0)), (3, .int (nI 0))] := hl_2
      refine z_for (nL := 4) (q) (fun dd (u : zW) => rAll u x ad (sDays B dd) ∧ cFr w u) (fun dd _ => [(0, .ref x), (1, .int (nI q)), (2, .int (sDaysN B dd)), (3, .int (nI dd))]) 0 (Nat.zero_le _) (u := w) ⟨hR, cFr_rf _⟩ hH hS hl_2 ?_ ?_
      · intro u H locs ls hu hH hS hl
        obtain ⟨hRu, hFu⟩ := hu
        refine lv_iload_n hx hb dX5_pass_11 rfl (lv_at hl 3 rfl) ?_
        refine lv_iload_n hx hb dX5_pass_12 rfl (lv_at hl 1 rfl) ?_
        refine lv_icmp_ge (tgt := 43) hx hb dX5_pass_13 (by decide) (fun c_3 => ?_) (fun c_3 => absurd (nI_le (Nat.le_refl _) (by omega)) c_3)
        refine lv_iload_n hx hb dX5_pass_43 rfl (lv_at hl 2 rfl) ?_
        refine vx_ret ?_
        exact z_iret hx hb hr hlocks hH hS (by
          have hc : (cd_pass B (nI q)) = 0 := by first | (simp [cd_pass, h_k_1_0, c_3, Int32.not_lt.mpr c_3, hvD, hqx]; done) | (simp_all [cd_pass]; done)
          refine ⟨hc, ?_, ⟨ad, ?_⟩, hFu⟩
          · show _ = sDaysN B (ix (nI q)); rw [hqx]
          · show rAll u x ad (sDays B (ix (nI q))); rw [hqx]; exact hRu) (by decide) (by decide) dX5_pass_44
      · intro dd hdd ih u H locs ls hu hH hS hl
        obtain ⟨hRu, hFu⟩ := hu
        obtain ⟨hIX, hK2, hK3⟩ := J_days ⟨hinv, hinv2, hinv3⟩ dd
        have hR9 := hRu
        obtain ⟨⟨⟨k_x, i503, i504, i505⟩, ⟨p500, p501, p502⟩, k_A, n_A, k_O, n_O, k_T, n_T⟩, ⟨qA, qO, qT⟩, hTool, hPk, ⟨h200, h201, h202, h203, h204, h205, h206, h208, h209, h212, h213⟩, hPo, ⟨h301, h302, h303, hAc⟩, ⟨hOq, hOf⟩, hOr, hInj⟩ := hR9
        refine lv_iload_n hx hb dX5_pass_11 rfl (lv_at hl 3 rfl) ?_
        refine lv_iload_n hx hb dX5_pass_12 rfl (lv_at hl 1 rfl) ?_
        refine lv_icmp_ge (tgt := 43) hx hb dX5_pass_13 (by decide) (fun c_4 => absurd c_4 (nI_ge hdd (by omega))) (fun c_4 => ?_)
        refine lv_aload_n hx hb dX5_pass_16 rfl (lv_at hl 0 rfl) ?_
        refine z_callv (va_runV (As := []) (rest := []) ⟨hx, hb, hml, hown, hts⟩ (c5_work l D cy base u x ad (sDays B dd) hRu hIX ⟨hK2, hK3⟩) (cwV 0 hts gX5_pass_X5_workInTheShop rfl rfl rfl (by decide +kernel) ⟨Nat.le_of_ble_eq_true rfl, Nat.le_of_ble_eq_true rfl⟩) (z_preV hA hS hH (z_recv hA hH (zk0 k_x (by decide)) (zE_k6 k_x) (q := (RX5, TX5, 6)) rfl)) rfl rfl hl.1 rfl (lv_room (Nat.le_of_ble_eq_true rfl)) dX5_pass_17 ⟨Nat.le_of_ble_eq_true rfl, Nat.le_of_ble_eq_true rfl⟩) hS (fun u_k_5 H locs hw_k_5 hH hz_k_5 hS => ?_)
        obtain ⟨hR_k_5, hF_k_5⟩ := hw_k_5
        have hR9 := hR_k_5
        obtain ⟨⟨⟨k_x, i503, i504, i505⟩, ⟨p500, p501, p502⟩, k_A, n_A, k_O, n_O, k_T, n_T⟩, ⟨qA, qO, qT⟩, hTool, hPk, ⟨h200, h201, h202, h203, h204, h205, h206, h208, h209, h212, h213⟩, hPo, ⟨h301, h302, h303, hAc⟩, ⟨hOq, hOf⟩, hOr, hInj⟩ := hR9
        refine lv_aload_n hx hb dX5_pass_20 rfl (lv_at hl 0 rfl) ?_
        refine lv_dup hx hb dX5_pass_21 rfl ?_
        refine z_get (C := RX5) (T := TX5) (N := 6) (ci := 5) (index := 43) (v := .int (zI u_k_5 505 x)) hx hb hts hi5 hown hA hH (zk0 k_x (by decide)) (zE_k6 k_x) rfl 5 (by decide) (hts (.fieldLink RX5 43 "ParoleCards" "today" "I") (by decide +kernel)) (fun _ h9 => h9) rfl dX5_pass_22 ?_
        refine lv_iconst (v := 1) hx hb dX5_pass_25 (by decide) ?_
        refine lv_iadd hx hb dX5_pass_26 ?_
        refine z_put (C := RX5) (T := TX5) (N := 6) (ci := 5) (index := 43) (v := .int ((zI u_k_5 505 x) + 1)) (ty := .int) hx hb hts hi5 tyX5 tyX5_ok nmX5 hown hA hH hS (zk0 k_x (by decide)) (zE_k6 k_x) rfl 5 (by decide) (hts (.fieldLink RX5 43 "ParoleCards" "today" "I") (by decide +kernel)) (fun _ h9 => h9) rfl (by decide +kernel) rfl rfl (Nat.le_of_ble_eq_true rfl) (w' := zsI u_k_5 505 x ((zI u_k_5 505 x) + 1)) (zs_505 (w := u_k_5) k_x _) (zsI_oth u_k_5 505 x _) (fun _ => rfl) dX5_pass_27 (fun H locs hH hS => ?_)
        rw [i505] at hH
        have hR3 := ra_505 (i := 0) hR_k_5
        obtain ⟨hIM, hnM, -⟩ := mInv_same hIX (sMorn_same (sDays B dd))
        refine lv_iload_n hx hb dX5_pass_30 rfl (lv_at hl 2 rfl) ?_
        refine lv_aload_n hx hb dX5_pass_31 rfl (lv_at hl 0 rfl) ?_
        refine z_calli (va_runV (As := []) (rest := [.int (sDaysN B dd)]) ⟨hx, hb, hml, hown, hts⟩ (c5_goes l D cy base (zsI u_k_5 505 x ((sLeaves (sWorks (sDays B dd) (nP (sDays B dd))) (nP (sDays B dd))) 0 0 + 1)) x ad (sMorn (sDays B dd)) hR3 hIM (K_morn ⟨hK2, hK3⟩ hIX)) (cwV 0 hts gX5_pass_X5_letGoThoseDue rfl rfl rfl (by decide +kernel) ⟨Nat.le_of_ble_eq_true rfl, Nat.le_of_ble_eq_true rfl⟩) (z_preV hA hS hH (z_recv hA hH (zk0 k_x (by decide)) (zE_k6 k_x) (q := (RX5, TX5, 6)) rfl)) rfl rfl hl.1 rfl (lv_room (Nat.le_of_ble_eq_true rfl)) dX5_pass_32 ⟨Nat.le_of_ble_eq_true rfl, Nat.le_of_ble_eq_true rfl⟩) hS (fun r_k_6 u_k_6 H locs hw_k_6 hH hz_k_6 hS => ?_)
        obtain ⟨rfl, hR_k_6, hF_k_6⟩ := hw_k_6
        refine lv_iadd hx hb dX5_pass_35 ?_
        refine lv_istore_n (lv' := [(2, .int ((sDaysN B dd) + (sGoesN (sMorn (sDays B dd)) 0 (nP (sMorn (sDays B dd)))))), (0, .ref x), (1, .int (nI q)), (3, .int (nI dd))]) hx hb dX5_pass_36 rfl hl (by decide) rfl (fun ls hl => ?_)
        refine lv_iinc (v := ((nI dd) + 1)) (lv' := [(3, .int ((nI dd) + 1)), (2, .int ((sDaysN B dd) + (sGoesN (sMorn (sDays B dd)) 0 (nP (sMorn (sDays B dd)))))), (0, .ref x), (1, .int (nI q))]) hx hb dX5_pass_37 hl (k := 3) rfl rfl (by decide) rfl (fun ls hl => ?_)
        refine lv_goto (tgt := 11) hx hb dX5_pass_40 (by decide) ?_
        have hl_7 : lv_has ls 4 [(0, .ref x), (1, .int (nI q)), (2, .int ((sDaysN B dd) + (sGoesN (sMorn (sDays B dd)) 0 (nP (sMorn (sDays B dd)))))), (3, .int ((nI dd) + 1))] := lv_sub hl [2, 3, 1, 0] rfl
        rw [show (((sDaysN B dd) + (sGoesN (sMorn (sDays B dd)) 0 (nP (sMorn (sDays B dd))))) : Int32) = (sDaysN B (dd + 1)) from (by
          show _ = sGoesN (sMorn (sDays B dd)) (sDaysN B dd) (nP (sDays B dd))
          rw [hnM]; exact (sGoesN_add _ _ _).symm)] at hl_7
        rw [show (((nI dd) + 1) : Int32) = (nI (dd + 1)) from (nI_1 _)] at hl_7
        exact ih _ _ _ _ (by
          have e9 : sDays B (dd + 1) = sGoes (sMorn (sDays B dd)) (nP (sDays B dd)) := rfl
          rw [e9, ← hnM]; exact ⟨hR_k_6, cFr_tr (cFr_tr hFu hF_k_5) (cFr_tr (cFr_I k_x (by decide) 505 _) hF_k_6)⟩) hH hS hl_7
  · refine lv_iload_n hx hb dX5_pass_0 rfl (lv_at hl 1 rfl) ?_
    refine lv_iconst (v := 1) hx hb dX5_pass_1 (by decide) ?_
    refine lv_bipush (v := 100) hx hb dX5_pass_2 (by decide) ?_
    refine z_xcallv (vx_runS (As := [.int d, .int 1, .int 100]) (rest := []) ⟨hx, hb, hml, hown, hts⟩ (c5_checkRange l hl9 D cy base w d 1 100 ) (va_cwS 3 hts gX5_pass_X5_checkRange rfl rfl rfl (by decide +kernel) ⟨Nat.le_of_ble_eq_true rfl, Nat.le_of_ble_eq_true rfl⟩) (z_preS hA hS hH) rfl rfl hl.1 rfl (lv_room (Nat.le_of_ble_eq_true rfl)) dX5_pass_4 ⟨Nat.le_of_ble_eq_true rfl, Nat.le_of_ble_eq_true rfl⟩) hS (fun E_k_8 ce_k_8 q9_k_8 u_k_8 H locs hw_k_8 hH hz_k_8 hS hce_k_8 hv_k_8 hcl_k_8 => ?_) (fun u_k_8 H locs hw_k_8 hH hz_k_8 hS => ?_)
    · obtain ⟨t_k_8_0, rfl, hu_k_8⟩ := hw_k_8
      rw [hu_k_8] at hH
      exact z_out htab hlocks hH hS hce_k_8 hv_k_8 hcl_k_8 (by
        have hc : (cd_pass B d) = 1 := by first | (simp [cd_pass, t_k_8_0, hvD]; done) | (simp_all [cd_pass]; done)
        exact ⟨⟨hc, rfl⟩, rfl⟩) (by decide) (by decide)
    · rcases hw_k_8 with ⟨h_k_8_0, hu_k_8⟩
      rw [hu_k_8] at hH
      exact absurd (hvD.symm.trans h_k_8_0) (by decide)
