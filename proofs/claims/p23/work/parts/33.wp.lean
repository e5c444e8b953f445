set_option maxHeartbeats 4000000 in
set_option maxRecDepth 100000 in
theorem c5_account (l : Launch) (hl9 : l.stackTraces = false) (D : va_G) (cy : Nat → ClassId) (base : Nat) (w : zW) (x : Nat) (ad : Nat → Nat → Nat) (B : mB) (its : Int32) (a : Int32) (hR : rAll w x ad B) (hinv : mInv B) (hinv2 : mInv2 B) : vx_Met l yX5_account wsX5_account ({ frames := 7, cells := 6, slots := 70, locals := 112 }) (zPc D cy base (zH D cy base) [.ref x, .int its, .int a] w) (zQi base (zH D cy base) (fun (r0 : Int32) (u0 : zW) => (cd_account B its a) = 0 ∧ r0 = (an_account B its a) ∧ Rep u0 x B ∧ cFr w u0)) (zXC base (zH D cy base) (fun (E : String) (u0 : zW) => thr1 (cd_account B its a) E ∧ u0 = w)) 6 70 (fun q => base ≤ q) := by
  refine vx_ofW (cc := cX5_account) (maxL := 4) (ret := (some .int)) (by decide) rfl ?_
  intro p e s m args below meth c s₁ B9 hml htab hv
  obtain ⟨rfl, hA, hH⟩ := hv
  have hx := B9.exec
  have hb := B9.bytes
  have hr := B9.returns
  have hts := atoms_spec (ws := wsX5_account) B9.pre
  have hown : s.vm.findClass RX5 = some m.cls := findClass_of_methodNamed B9.named
  have hlocks := B9.notSynchronized
  have hi2 : ∀ w ∈ wsX20, w ∈ wsX5_account := by decide +kernel
  have hi3 : ∀ w ∈ wsX30, w ∈ wsX5_account := by decide +kernel
  have hat_180 : ∀ w ∈ (vx_atS RX5 180 zIob zUp).filter goodWord, w ∈ wsX5_account := fun _ h => by first | exact List.mem_cons_of_mem _ (List.mem_append_right _ h) | exact List.mem_cons_of_mem _ (List.mem_append_left _ (List.mem_append_right _ h)) | exact List.mem_cons_of_mem _ (List.mem_append_left _ (List.mem_append_left _ (List.mem_append_right _ h)))
  have hS : va_S (fun q : Nat => base ≤ q) s.heap s.heap [] := va_S.rf
  have hl := lv_entry ([.ref x, .int its, .int a]) (n := 4) (Nat.le_of_ble_eq_true rfl)
  rw [lg_entry_eq]
  generalize (lg_sl ([.ref x, .int its, .int a]) ++ List.replicate (4 - (lg_sl ([.ref x, .int its, .int a])).length) Slot.unset).toArray = ls at hl ⊢
  have hl : lv_has ls 4 [(0, .ref x), (1, .int its), (2, .int a)] := hl
  have hR9 := hR
  obtain ⟨⟨⟨k_x, i503, i504, i505⟩, ⟨p500, p501, p502⟩, k_A, n_A, k_O, n_O, k_T, n_T⟩, ⟨qA, qO, qT⟩, hTool, hPk, ⟨h200, h201, h202, h203, h204, h205, h206, h208, h209, h212, h213⟩, hPo, ⟨h301, h302, h303, hAc⟩, ⟨hOq, hOf⟩, hOr, hInj⟩ := hR9
  rcases vP_split hinv its with ⟨i, rfl, hi, hi10, hvP, hix⟩ | hvP
  · have q_i : zQ w (ad 7 0) i = some (ad 0 i) := by rw [qA i hi10, if_pos hi]
    obtain ⟨k_p, p207, p211, k_f, n_f, k_q, p300, k_r, n_r⟩ := hPk i hi
    refine lv_aload_n hx hb dX5_account_0 rfl (lv_at hl 0 rfl) ?_
    refine lv_iload_n hx hb dX5_account_1 rfl (lv_at hl 1 rfl) ?_
    refine z_xcallr (vx_runV (As := [.int (nI i)]) (rest := []) ⟨hx, hb, hml, hown, hts⟩ (c5_findPerson_t l hl9 D cy base w x i (ad 7 0) (ad 0 i) k_x p500 k_A n_A q_i hi10) (cwV 1 hts gX5_account_X5_findPerson rfl rfl rfl (by decide +kernel) ⟨Nat.le_of_ble_eq_true rfl, Nat.le_of_ble_eq_true rfl⟩) (z_preV hA hS hH (z_recv hA hH (zk0 k_x (by decide)) (zE_k6 k_x) (q := (RX5, TX5, 6)) rfl)) rfl rfl hl.1 rfl (lv_room (Nat.le_of_ble_eq_true rfl)) dX5_account_2 ⟨Nat.le_of_ble_eq_true rfl, Nat.le_of_ble_eq_true rfl⟩) hS (fun E_k_1 ce_k_1 q9_k_1 u_k_1 H locs hw_k_1 hH hz_k_1 hS hce_k_1 hv_k_1 hcl_k_1 => ?_) (fun r_k_1 u_k_1 H locs hw_k_1 hH hz_k_1 hS => ?_)
    · exact hw_k_1.elim
    · rcases hw_k_1 with ⟨rfl, hu_k_1⟩
      rw [hu_k_1] at hH
      refine z_get (C := RX2) (T := TX2) (N := 14) (ci := 2) (index := 166) (v := .ref (ad 1 i)) hx hb hts hi2 hown hA hH (zk0 k_p (by decide)) (zE_k3 k_p) rfl 11 (by decide) (hts (.fieldLink RX5 166 "ParoleCards$Person" "purse" "LParoleCards$Purse;") (by decide +kernel)) (fun _ h9 => h9) (congrArg (fun z => some (va_rf z)) p211) dX5_account_5 ?_
      refine z_get (C := RX3) (T := TX3) (N := 4) (ci := 3) (index := 170) (v := .ref (ad 2 i)) hx hb hts hi3 hown hA hH (zk0 k_q (by decide)) (zE_k4 k_q) rfl 0 (by decide) (hts (.fieldLink RX5 170 "ParoleCards$Purse" "accounts" "[I") (by decide +kernel)) (fun _ h9 => h9) (congrArg (fun z => some (va_rf z)) p300) dX5_account_8 ?_
      refine lv_astore_n (lv' := [(3, .ref (ad 2 i)), (0, .ref x), (1, .int (nI i)), (2, .int a)]) hx hb dX5_account_11 rfl hl (by decide) rfl (fun ls hl => ?_)
      refine lv_iload_n hx hb dX5_account_12 rfl (lv_at hl 3 rfl) ?_
      refine lv_if_lt (tgt := 22) hx hb dX5_account_13 (by decide) (fun c_2 => ?_) (fun c_2 => ?_)
      · have hvA : vLies a 0 3 = false := vL3_f1 c_2
        exact z_throwS (cls := zIob) (text := "no such account") (is := 178) (ic := 180) (ik := 176) hx hb hl9 hown (by decide +kernel) (hts (.classLink RX5 176 "java/lang/IndexOutOfBoundsException") (by decide +kernel)) (hts (.initialized "java/lang/IndexOutOfBoundsException") (by decide +kernel)) hA (by decide +kernel) (fun w9 h9 => hts w9 (hat_180 w9 h9)) (by decide +kernel) (by decide +kernel) hH hS (hl.1.trans hml.symm) dX5_account_22 dX5_account_25 dX5_account_26 dX5_account_28 dX5_account_31 htab (Nat.le_of_ble_eq_true rfl) (Nat.le_of_ble_eq_true rfl) (Nat.le_of_ble_eq_true rfl) (Nat.le_of_ble_eq_true rfl) hlocks (by
          have hc : (cd_account B (nI i) a) = 1 := by first | (simp [cd_account, c_2, Int32.not_le.mpr c_2, hvP, hix, hvA]; done) | (simp_all [cd_account]; done)
          exact ⟨⟨hc, rfl⟩, rfl⟩) (by decide) (by decide)
      · refine lv_iload_n hx hb dX5_account_16 rfl (lv_at hl 3 rfl) ?_
        refine lv_aload_n hx hb dX5_account_17 rfl (lv_at hl 0 rfl) ?_
        refine z_alen (v := 4) hx hb hA hH (zk0 k_r (by decide)) (zE_k15 k_r) 0 rfl (congrArg Int32.ofNat n_r) dX5_account_18 ?_
        refine lv_icmp_lt (tgt := 32) hx hb dX5_account_19 (by decide) (fun c_3 => ?_) (fun c_3 => ?_)
        · have hvA : vLies a 0 3 = true := vL3_t c_2 c_3
          obtain ⟨j, hj, hvj⟩ := nIlt 4 (by decide) c_2 c_3
          refine lv_aload_n hx hb dX5_account_32 rfl (lv_at hl 0 rfl) ?_
          refine lv_iload_n hx hb dX5_account_33 rfl (lv_at hl 3 rfl) ?_
          refine z_iald (v := (zR w (ad 2 i) j)) hx hb hA hH (zk0 k_r (by decide)) (zEn (zE_k15 k_r) n_r) j hvj hj (by decide) rfl dX5_account_34 ?_
          refine vx_ret ?_
          exact z_iret hx hb hr hlocks hH hS (by
            have hc : (cd_account B (nI i) a) = 0 := by first | (simp [cd_account, c_2, Int32.not_lt.mp c_2, c_3, Int32.not_le.mpr c_3, hvP, hix, hvA]; done) | (simp_all [cd_account]; done)
            refine ⟨hc, ?_, ?_⟩
            · have hjx : ix a = j := by rw [hvj]; exact ix_nI (by omega)
              show _ = B 14 (4 * ix (nI i) + ix a)
              rw [hix, hjx]; exact hAc i hi j hj
            · exact ⟨⟨ad, hR⟩, cFr_rf _⟩) (by decide) (by decide) dX5_account_35
        · have hvA : vLies a 0 3 = false := vL3_f2 c_3
          exact z_throwS (cls := zIob) (text := "no such account") (is := 178) (ic := 180) (ik := 176) hx hb hl9 hown (by decide +kernel) (hts (.classLink RX5 176 "java/lang/IndexOutOfBoundsException") (by decide +kernel)) (hts (.initialized "java/lang/IndexOutOfBoundsException") (by decide +kernel)) hA (by decide +kernel) (fun w9 h9 => hts w9 (hat_180 w9 h9)) (by decide +kernel) (by decide +kernel) hH hS (hl.1.trans hml.symm) dX5_account_22 dX5_account_25 dX5_account_26 dX5_account_28 dX5_account_31 htab (Nat.le_of_ble_eq_true rfl) (Nat.le_of_ble_eq_true rfl) (Nat.le_of_ble_eq_true rfl) (Nat.le_of_ble_eq_true rfl) hlocks (by
            have hc : (cd_account B (nI i) a) = 1 := by first | (simp [cd_account, c_2, Int32.not_lt.mp c_2, c_3, Int32.not_lt.mp c_3, hvP, hix, hvA]; done) | (simp_all [cd_account]; done)
            exact ⟨⟨hc, rfl⟩, rfl⟩) (by decide) (by decide)
  · have hno := vP_no hinv hvP qA
    refine lv_aload_n hx hb dX5_account_0 rfl (lv_at hl 0 rfl) ?_
    refine lv_iload_n hx hb dX5_account_1 rfl (lv_at hl 1 rfl) ?_
    refine z_xcallr (vx_runV (As := [.int its]) (rest := []) ⟨hx, hb, hml, hown, hts⟩ (c5_findPerson_f l hl9 D cy base w x its (ad 7 0) k_x p500 k_A n_A hno) (cwV 1 hts gX5_account_X5_findPerson rfl rfl rfl (by decide +kernel) ⟨Nat.le_of_ble_eq_true rfl, Nat.le_of_ble_eq_true rfl⟩) (z_preV hA hS hH (z_recv hA hH (zk0 k_x (by decide)) (zE_k6 k_x) (q := (RX5, TX5, 6)) rfl)) rfl rfl hl.1 rfl (lv_room (Nat.le_of_ble_eq_true rfl)) dX5_account_2 ⟨Nat.le_of_ble_eq_true rfl, Nat.le_of_ble_eq_true rfl⟩) hS (fun E_k_4 ce_k_4 q9_k_4 u_k_4 H locs hw_k_4 hH hz_k_4 hS hce_k_4 hv_k_4 hcl_k_4 => ?_) (fun r_k_4 u_k_4 H locs hw_k_4 hH hz_k_4 hS => ?_)
    · obtain ⟨rfl, hu_k_4⟩ := hw_k_4
      rw [hu_k_4] at hH
      exact z_out htab hlocks hH hS hce_k_4 hv_k_4 hcl_k_4 (by
        have hc : (cd_account B its a) = 1 := by first | (simp [cd_account, hvP]; done) | (simp_all [cd_account]; done)
        exact ⟨⟨hc, rfl⟩, rfl⟩) (by decide) (by decide)
    · exact hw_k_4.elim
set_option maxHeartbeats 4000000 in
set_option maxRecDepth 100000 in
theorem c5_limit (l : Launch) (hl9 : l.stackTraces = false) (D : va_G) (cy : Nat → ClassId) (base : Nat) (w : zW) (x : Nat) (ad : Nat → Nat → Nat) (B : mB) (its : Int32) (hR : rAll w x ad B) (hinv : mInv B) (hinv2 : mInv2 B) : vx_Met l yX5_limit wsX5_limit ({ frames := 7, cells := 6, slots := 70, locals := 112 }) (zPc D cy base (zH D cy base) [.ref x, .int its] w) (zQi base (zH D cy base) (fun (r0 : Int32) (u0 : zW) => (cd_P B its) = 0 ∧ r0 = (an_limit B its) ∧ Rep u0 x B ∧ cFr w u0)) (zXC base (zH D cy base) (fun (E : String) (u0 : zW) => thr1 (cd_P B its) E ∧ u0 = w)) 6 70 (fun q => base ≤ q) := by
  refine vx_ofW (cc := cX5_limit) (maxL := 2) (ret := (some .int)) (by decide) rfl ?_
  intro p e s m args below meth c s₁ B9 hml htab hv
  obtain ⟨rfl, hA, hH⟩ := hv
  have hx := B9.exec
  have hb := B9.bytes
  have hr := B9.returns
  have hts := atoms_spec (ws := wsX5_limit) B9.pre
  have hown : s.vm.findClass RX5 = some m.cls := findClass_of_methodNamed B9.named
  have hlocks := B9.notSynchronized
  have hi5 : ∀ w ∈ wsX50, w ∈ wsX5_limit := by decide +kernel
  have hS : va_S (fun q : Nat => base ≤ q) s.heap s.heap [] := va_S.rf
  have hl := lv_entry ([.ref x, .int its]) (n := 2) (Nat.le_of_ble_eq_true rfl)
  rw [lg_entry_eq]
  generalize (lg_sl ([.ref x, .int its]) ++ List.replicate (2 - (lg_sl ([.ref x, .int its])).length) Slot.unset).toArray = ls at hl ⊢
  have hl : lv_has ls 2 [(0, .ref x), (1, .int its)] := hl
  have hR9 := hR
  obtain ⟨⟨⟨k_x, i503, i504, i505⟩, ⟨p500, p501, p502⟩, k_A, n_A, k_O, n_O, k_T, n_T⟩, ⟨qA, qO, qT⟩, hTool, hPk, ⟨h200, h201, h202, h203, h204, h205, h206, h208, h209, h212, h213⟩, hPo, ⟨h301, h302, h303, hAc⟩, ⟨hOq, hOf⟩, hOr, hInj⟩ := hR9
  rcases vP_split hinv its with ⟨i, rfl, hi, hi10, hvP, hix⟩ | hvP
  · have q_i : zQ w (ad 7 0) i = some (ad 0 i) := by rw [qA i hi10, if_pos hi]
    obtain ⟨k_p, p207, p211, k_f, n_f, k_q, p300, k_r, n_r⟩ := hPk i hi
    have hoff : ∀ k, k < 50 → ∀ e9, zQ w (ad 3 i) k = some e9 → zK w e9 = 1 := by
      intro k hk e9 he
      rw [hOq i hi k hk] at he
      by_cases c9 : k < oc B i
      · rw [if_pos c9] at he; cases he; exact (hOf i hi k c9).1
      · rw [if_neg c9] at he; cases he
    refine lv_aload_n hx hb dX5_limit_0 rfl (lv_at hl 0 rfl) ?_
    refine lv_iload_n hx hb dX5_limit_1 rfl (lv_at hl 1 rfl) ?_
    refine z_xcallr (vx_runV (As := [.int (nI i)]) (rest := []) ⟨hx, hb, hml, hown, hts⟩ (c5_findPerson_t l hl9 D cy base w x i (ad 7 0) (ad 0 i) k_x p500 k_A n_A q_i hi10) (cwV 1 hts gX5_limit_X5_findPerson rfl rfl rfl (by decide +kernel) ⟨Nat.le_of_ble_eq_true rfl, Nat.le_of_ble_eq_true rfl⟩) (z_preV hA hS hH (z_recv hA hH (zk0 k_x (by decide)) (zE_k6 k_x) (q := (RX5, TX5, 6)) rfl)) rfl rfl hl.1 rfl (lv_room (Nat.le_of_ble_eq_true rfl)) dX5_limit_2 ⟨Nat.le_of_ble_eq_true rfl, Nat.le_of_ble_eq_true rfl⟩) hS (fun E_k_1 ce_k_1 q9_k_1 u_k_1 H locs hw_k_1 hH hz_k_1 hS hce_k_1 hv_k_1 hcl_k_1 => ?_) (fun r_k_1 u_k_1 H locs hw_k_1 hH hz_k_1 hS => ?_)
    · exact hw_k_1.elim
    · rcases hw_k_1 with ⟨rfl, hu_k_1⟩
      rw [hu_k_1] at hH
      refine lv_aload_n hx hb dX5_limit_5 rfl (lv_at hl 0 rfl) ?_
      refine z_get (C := RX5) (T := TX5) (N := 6) (ci := 5) (index := 43) (v := .int (zI w 505 x)) hx hb hts hi5 hown hA hH (zk0 k_x (by decide)) (zE_k6 k_x) rfl 5 (by decide) (hts (.fieldLink RX5 43 "ParoleCards" "today" "I") (by decide +kernel)) (fun _ h9 => h9) rfl dX5_limit_6 ?_
      refine z_calli (va_runV (As := [.int (zI w 505 x)]) (rest := []) ⟨hx, hb, hml, hown, hts⟩ (c2_mayStillBuy l D cy base w (ad 0 i) (zI w 505 x) (ad 3 i) (ad 1 i) k_p p207 k_f n_f p211 k_q hoff) (cwV 1 hts gX5_limit_X2_mayStillBuy rfl rfl rfl (by decide +kernel) ⟨Nat.le_of_ble_eq_true rfl, Nat.le_of_ble_eq_true rfl⟩) (z_preV hA hS hH (z_recv hA hH (zk0 k_p (by decide)) (zE_k3 k_p) (q := (RX2, TX2, 14)) rfl)) rfl rfl hl.1 rfl (lv_room (Nat.le_of_ble_eq_true rfl)) dX5_limit_9 ⟨Nat.le_of_ble_eq_true rfl, Nat.le_of_ble_eq_true rfl⟩) hS (fun r_k_2 u_k_2 H locs hw_k_2 hH hz_k_2 hS => ?_)
      rcases hw_k_2 with ⟨h_k_2_0, rfl, hu_k_2⟩ | ⟨h_k_2_0, rfl, hu_k_2⟩
      · rw [hu_k_2] at hH
        have hOut : ¬ B 2 i = 0 := fun z => h_k_2_0 ((h212 i hi).trans z)
        have hM := (may_eq hR hinv hinv2 hi).1 hOut
        refine vx_ret ?_
        exact z_iret hx hb hr hlocks hH hS (by
          have hc : (cd_P B (nI i)) = 0 := by first | (simp [cd_P, h_k_2_0, hvP, hix, hOut]; done) | (simp_all [cd_P]; done)
          refine ⟨hc, ?_, ?_⟩
          · show _ = sRest B (ix (nI i))
            rw [hix]; exact hM.symm
          · exact ⟨⟨ad, hR⟩, cFr_rf _⟩) (by decide) (by decide) dX5_limit_12
      · rw [hu_k_2] at hH
        have hIn2 : B 2 i = 0 := (h212 i hi).symm.trans h_k_2_0
        have hM := (may_eq hR hinv hinv2 hi).2 hIn2
        rw [i505, hM]
        refine vx_ret ?_
        exact z_iret hx hb hr hlocks hH hS (by
          have hc : (cd_P B (nI i)) = 0 := by first | (simp [cd_P, h_k_2_0, hvP, hix]; done) | (simp_all [cd_P]; done)
          refine ⟨hc, ?_, ?_⟩
          · show _ = sRest B (ix (nI i))
            rw [hix]
          · exact ⟨⟨ad, hR⟩, cFr_rf _⟩) (by decide) (by decide) dX5_limit_12
  · have hno := vP_no hinv hvP qA
    refine lv_aload_n hx hb dX5_limit_0 rfl (lv_at hl 0 rfl) ?_
    refine lv_iload_n hx hb dX5_limit_1 rfl (lv_at hl 1 rfl) ?_
    refine z_xcallr (vx_runV (As := [.int its]) (rest := []) ⟨hx, hb, hml, hown, hts⟩ (c5_findPerson_f l hl9 D cy base w x its (ad 7 0) k_x p500 k_A n_A hno) (cwV 1 hts gX5_limit_X5_findPerson rfl rfl rfl (by decide +kernel) ⟨Nat.le_of_ble_eq_true rfl, Nat.le_of_ble_eq_true rfl⟩) (z_preV hA hS hH (z_recv hA hH (zk0 k_x (by decide)) (zE_k6 k_x) (q := (RX5, TX5, 6)) rfl)) rfl rfl hl.1 rfl (lv_room (Nat.le_of_ble_eq_true rfl)) dX5_limit_2 ⟨Nat.le_of_ble_eq_true rfl, Nat.le_of_ble_eq_true rfl⟩) hS (fun E_k_3 ce_k_3 q9_k_3 u_k_3 H locs hw_k_3 hH hz_k_3 hS hce_k_3 hv_k_3 hcl_k_3 => ?_) (fun r_k_3 u_k_3 H locs hw_k_3 hH hz_k_3 hS => ?_)
    · obtain ⟨rfl, hu_k_3⟩ := hw_k_3
      rw [hu_k_3] at hH
      exact z_out htab hlocks hH hS hce_k_3 hv_k_3 hcl_k_3 (by
        have hc : (cd_P B its) = 1 := by first | (simp [cd_P, hvP]; done) | (simp_all [cd_P]; done)
        exact ⟨⟨hc, rfl⟩, rfl⟩) (by decide) (by decide)
    · exact hw_k_3.elim
set_option maxHeartbeats 4000000 in
set_option maxRecDepth 100000 in
theorem c5_setTools (l : Launch) (hl9 : l.stackTraces = false) (D : va_G) (cy : Nat → ClassId) (base : Nat) (w : zW) (x : Nat) (ad : Nat → Nat → Nat) (B : mB) (k9 : Int32) (n : Int32) (hR : rAll w x ad B) (hinv : mInv B) (hinv2 : mInv2 B) : vx_Met l yX5_setTools wsX5_setTools ({ frames := 7, cells := 6, slots := 70, locals := 112 }) (zPc D cy base (zH D cy base) [.ref x, .int k9, .int n] w) (zQi base (zH D cy base) (fun (r0 : Int32) (u0 : zW) => (cd_setTools B k9 n) = 0 ∧ r0 = (an_setTools B k9) ∧ Rep u0 x (up_setTools B k9 n) ∧ cFr w u0)) (zXC base (zH D cy base) (fun (E : String) (u0 : zW) => thr3 (cd_setTools B k9 n) E ∧ u0 = w)) 6 70 (fun q => base ≤ q) := by
  refine vx_ofW (cc := cX5_setTools) (maxL := 5) (ret := (some .int)) (by decide) rfl ?_
  intro p e s m args below meth c s₁ B9 hml htab hv
  obtain ⟨rfl, hA, hH⟩ := hv
  have hx := B9.exec
  have hb := B9.bytes
  have hr := B9.returns
  have hts := atoms_spec (ws := wsX5_setTools) B9.pre
  have hown : s.vm.findClass RX5 = some m.cls := findClass_of_methodNamed B9.named
  have hlocks := B9.notSynchronized
  have hi4 : ∀ w ∈ wsX40, w ∈ wsX5_setTools := by decide +kernel
  have hat_40 : ∀ w ∈ (vx_atS RX5 40 zIse zUp).filter goodWord, w ∈ wsX5_setTools := fun _ h => by first | exact List.mem_cons_of_mem _ (List.mem_append_right _ h) | exact List.mem_cons_of_mem _ (List.mem_append_left _ (List.mem_append_right _ h)) | exact List.mem_cons_of_mem _ (List.mem_append_left _ (List.mem_append_left _ (List.mem_append_right _ h)))
  have hS : va_S (fun q : Nat => base ≤ q) s.heap s.heap [] := va_S.rf
  have hl := lv_entry ([.ref x, .int k9, .int n]) (n := 5) (Nat.le_of_ble_eq_true rfl)
  rw [lg_entry_eq]
  generalize (lg_sl ([.ref x, .int k9, .int n]) ++ List.replicate (5 - (lg_sl ([.ref x, .int k9, .int n])).length) Slot.unset).toArray = ls at hl ⊢
  have hl : lv_has ls 5 [(0, .ref x), (1, .int k9), (2, .int n)] := hl
  have hR9 := hR
  obtain ⟨⟨⟨k_x, i503, i504, i505⟩, ⟨p500, p501, p502⟩, k_A, n_A, k_O, n_O, k_T, n_T⟩, ⟨qA, qO, qT⟩, hTool, hPk, ⟨h200, h201, h202, h203, h204, h205, h206, h208, h209, h212, h213⟩, hPo, ⟨h301, h302, h303, hAc⟩, ⟨hOq, hOf⟩, hOr, hInj⟩ := hR9
  rcases vLies_const (v := k9) (n := 3) (by decide) (m := 2) (by decide) with ⟨k, rfl, hk3, hvK, hkx⟩ | hvK
  · obtain ⟨k_t, i400, i401⟩ := hTool k hk3
    refine lv_aload_n hx hb dX5_setTools_0 rfl (lv_at hl 0 rfl) ?_
    refine lv_iload_n hx hb dX5_setTools_1 rfl (lv_at hl 1 rfl) ?_
    refine z_xcallr (vx_runV (As := [.int (nI k)]) (rest := []) ⟨hx, hb, hml, hown, hts⟩ (c5_findTools_t l hl9 D cy base w x k (ad 7 2) (ad 6 k) k_x p502 k_T n_T (qT k hk3) hk3) (cwV 1 hts gX5_setTools_X5_findTools rfl rfl rfl (by decide +kernel) ⟨Nat.le_of_ble_eq_true rfl, Nat.le_of_ble_eq_true rfl⟩) (z_preV hA hS hH (z_recv hA hH (zk0 k_x (by decide)) (zE_k6 k_x) (q := (RX5, TX5, 6)) rfl)) rfl rfl hl.1 rfl (lv_room (Nat.le_of_ble_eq_true rfl)) dX5_setTools_2 ⟨Nat.le_of_ble_eq_true rfl, Nat.le_of_ble_eq_true rfl⟩) hS (fun E_k_1 ce_k_1 q9_k_1 u_k_1 H locs hw_k_1 hH hz_k_1 hS hce_k_1 hv_k_1 hcl_k_1 => ?_) (fun r_k_1 u_k_1 H locs hw_k_1 hH hz_k_1 hS => ?_)
    · exact hw_k_1.elim
    · rcases hw_k_1 with ⟨rfl, hu_k_1⟩
      rw [hu_k_1] at hH
      refine lv_astore_n (lv' := [(3, .ref (ad 6 k)), (0, .ref x), (1, .int (nI k)), (2, .int n)]) hx hb dX5_setTools_5 rfl hl (by decide) rfl (fun ls hl => ?_)
      refine lv_iload_n hx hb dX5_setTools_6 rfl (lv_at hl 3 rfl) ?_
      refine lv_iconst (v := 0) hx hb dX5_setTools_7 (by decide) ?_
      refine lv_bipush (v := 20) hx hb dX5_setTools_8 (by decide) ?_
      refine z_xcallv (vx_runS (As := [.int n, .int 0, .int 20]) (rest := []) ⟨hx, hb, hml, hown, hts⟩ (c5_checkRange l hl9 D cy base w n 0 20 ) (va_cwS 3 hts gX5_setTools_X5_checkRange rfl rfl rfl (by decide +kernel) ⟨Nat.le_of_ble_eq_true rfl, Nat.le_of_ble_eq_true rfl⟩) (z_preS hA hS hH) rfl rfl hl.1 rfl (lv_room (Nat.le_of_ble_eq_true rfl)) dX5_setTools_10 ⟨Nat.le_of_ble_eq_true rfl, Nat.le_of_ble_eq_true rfl⟩) hS (fun E_k_2 ce_k_2 q9_k_2 u_k_2 H locs hw_k_2 hH hz_k_2 hS hce_k_2 hv_k_2 hcl_k_2 => ?_) (fun u_k_2 H locs hw_k_2 hH hz_k_2 hS => ?_)
      · obtain ⟨t_k_2_0, rfl, hu_k_2⟩ := hw_k_2
        rw [hu_k_2] at hH
        exact z_out htab hlocks hH hS hce_k_2 hv_k_2 hcl_k_2 (by
          have hc : (cd_setTools B (nI k) n) = 2 := by first | (simp [cd_setTools, t_k_2_0, hvK, hkx]; done) | (simp_all [cd_setTools]; done)
          exact ⟨Or.inr (Or.inl (⟨hc, rfl⟩)), rfl⟩) (by decide) (by decide)
      · rcases hw_k_2 with ⟨h_k_2_0, hu_k_2⟩
        rw [hu_k_2] at hH
        refine lv_aload_n hx hb dX5_setTools_13 rfl (lv_at hl 0 rfl) ?_
        refine z_get (C := RX4) (T := TX4) (N := 2) (ci := 4) (index := 104) (v := .int (zI w 401 (ad 6 k))) hx hb hts hi4 hown hA hH (zk0 k_t (by decide)) (zE_k5 k_t) rfl 1 (by decide) (hts (.fieldLink RX5 104 "ParoleCards$ToolKind" "countedOut" "I") (by decide +kernel)) (fun _ h9 => h9) rfl dX5_setTools_14 ?_
        refine lv_iload_n hx hb dX5_setTools_17 rfl (lv_at hl 3 rfl) ?_
        refine lv_icmp_le (tgt := 31) hx hb dX5_setTools_18 (by decide) (fun c_3 => ?_) (fun c_3 => ?_)
        · have hT : ¬ n < sOut B (nI k) (nP B) := by rw [← i401]; exact Int32.not_lt.mpr c_3
          refine lv_aload_n hx hb dX5_setTools_31 rfl (lv_at hl 0 rfl) ?_
          refine z_get (C := RX4) (T := TX4) (N := 2) (ci := 4) (index := 109) (v := .int (zI w 400 (ad 6 k))) hx hb hts hi4 hown hA hH (zk0 k_t (by decide)) (zE_k5 k_t) rfl 0 (by decide) (hts (.fieldLink RX5 109 "ParoleCards$ToolKind" "count" "I") (by decide +kernel)) (fun _ h9 => h9) rfl dX5_setTools_32 ?_
          refine lv_istore (lv' := [(4, .int (zI w 400 (ad 6 k))), (3, .ref (ad 6 k)), (0, .ref x), (1, .int (nI k)), (2, .int n)]) hx hb dX5_setTools_35 hl (by decide) rfl (fun ls hl => ?_)
          refine lv_aload_n hx hb dX5_setTools_37 rfl (lv_at hl 1 rfl) ?_
          refine lv_iload_n hx hb dX5_setTools_38 rfl (lv_at hl 4 rfl) ?_
          refine z_put (C := RX4) (T := TX4) (N := 2) (ci := 4) (index := 109) (v := .int n) (ty := .int) hx hb hts hi4 tyX4 tyX4_ok nmX4 hown hA hH hS (zk0 k_t (by decide)) (zE_k5 k_t) rfl 0 (by decide) (hts (.fieldLink RX5 109 "ParoleCards$ToolKind" "count" "I") (by decide +kernel)) (fun _ h9 => h9) rfl (by decide +kernel) rfl rfl (Nat.le_of_ble_eq_true rfl) (w' := zsI w 400 (ad 6 k) n) (zs_400 (w := w) k_t _) (zsI_oth w 400 (ad 6 k) _) (fun _ => rfl) dX5_setTools_39 (fun H locs hH hS => ?_)
          refine lv_iload hx hb dX5_setTools_42 (lv_at hl 0 rfl) ?_
          refine vx_ret ?_
          exact z_iret hx hb hr hlocks hH hS (by
            have hc : (cd_setTools B (nI k) n) = 0 := by first | (simp [cd_setTools, h_k_2_0, c_3, Int32.not_lt.mpr c_3, hvK, hkx, hT]; done) | (simp_all [cd_setTools]; done)
            refine ⟨hc, ?_, ?_⟩
            · show _ = B 21 (ix (nI k))
              rw [hkx]; exact i400
            · unfold up_setTools; rw [hkx]
              exact ⟨⟨ad, ra_400 hR hk3 n⟩, (cI (k := 5) (cFr_rf _) k_t (by decide))⟩) (by decide) (by decide) dX5_setTools_44
        · have hT : n < sOut B (nI k) (nP B) := by rw [← i401]; exact Int32.not_le.mp c_3
          exact z_throwS (cls := zIse) (text := "more tools are counted out") (is := 107) (ic := 40) (ik := 36) hx hb hl9 hown (by decide +kernel) (hts (.classLink RX5 36 "java/lang/IllegalStateException") (by decide +kernel)) (hts (.initialized "java/lang/IllegalStateException") (by decide +kernel)) hA (by decide +kernel) (fun w9 h9 => hts w9 (hat_40 w9 h9)) (by decide +kernel) (by decide +kernel) hH hS (hl.1.trans hml.symm) dX5_setTools_21 dX5_setTools_24 dX5_setTools_25 dX5_setTools_27 dX5_setTools_30 htab (Nat.le_of_ble_eq_true rfl) (Nat.le_of_ble_eq_true rfl) (Nat.le_of_ble_eq_true rfl) (Nat.le_of_ble_eq_true rfl) hlocks (by
            have hc : (cd_setTools B (nI k) n) = 3 := by first | (simp [cd_setTools, h_k_2_0, c_3, Int32.not_le.mp c_3, hvK, hkx, hT]; done) | (simp_all [cd_setTools]; done)
            exact ⟨Or.inr (Or.inr (⟨hc, rfl⟩)), rfl⟩) (by decide) (by decide)
  · have hno3 := vK_no (w := w) (A := ad 7 2) hvK
    refine lv_aload_n hx hb dX5_setTools_0 rfl (lv_at hl 0 rfl) ?_
    refine lv_iload_n hx hb dX5_setTools_1 rfl (lv_at hl 1 rfl) ?_
    refine z_xcallr (vx_runV (As := [.int k9]) (rest := []) ⟨hx, hb, hml, hown, hts⟩ (c5_findTools_f l hl9 D cy base w x k9 (ad 7 2) k_x p502 k_T n_T hno3) (cwV 1 hts gX5_setTools_X5_findTools rfl rfl rfl (by decide +kernel) ⟨Nat.le_of_ble_eq_true rfl, Nat.le_of_ble_eq_true rfl⟩) (z_preV hA hS hH (z_recv hA hH (zk0 k_x (by decide)) (zE_k6 k_x) (q := (RX5, TX5, 6)) rfl)) rfl rfl hl.1 rfl (lv_room (Nat.le_of_ble_eq_true rfl)) dX5_setTools_2 ⟨Nat.le_of_ble_eq_true rfl, Nat.le_of_ble_eq_true rfl⟩) hS (fun E_k_4 ce_k_4 q9_k_4 u_k_4 H locs hw_k_4 hH hz_k_4 hS hce_k_4 hv_k_4 hcl_k_4 => ?_) (fun r_k_4 u_k_4 H locs hw_k_4 hH hz_k_4 hS => ?_)
    · obtain ⟨rfl, hu_k_4⟩ := hw_k_4
      rw [hu_k_4] at hH
      exact z_out htab hlocks hH hS hce_k_4 hv_k_4 hcl_k_4 (by
        have hc : (cd_setTools B k9 n) = 1 := by first | (simp [cd_setTools, hvK]; done) | (simp_all [cd_setTools]; done)
        exact ⟨Or.inl (⟨hc, rfl⟩), rfl⟩) (by decide) (by decide)
    · exact hw_k_4.elim
set_option maxHeartbeats 4000000 in
set_option maxRecDepth 100000 in
theorem c5_takeOff (l : Launch) (hl9 : l.stackTraces = false) (D : va_G) (cy : Nat → ClassId) (base : Nat) (w : zW) (x : Nat) (ad : Nat → Nat → Nat) (B : mB) (its : Int32) (hR : rAll w x ad B) (hinv : mInv B) (hinv2 : mInv2 B) : vx_Met l yX5_takeOff wsX5_takeOff ({ frames := 7, cells := 6, slots := 70, locals := 112 }) (zPc D cy base (zH D cy base) [.ref x, .int its] w) (zQi base (zH D cy base) (fun (r0 : Int32) (u0 : zW) => (cd_takeOff B its) = 0 ∧ r0 = (an_of B 11 its) ∧ Rep u0 x (up_takeOff B its) ∧ cFr w u0)) (zXC base (zH D cy base) (fun (E : String) (u0 : zW) => thr2 (cd_takeOff B its) E ∧ u0 = w)) 6 70 (fun q => base ≤ q) := by
  refine vx_ofW (cc := cX5_takeOff) (maxL := 4) (ret := (some .int)) (by decide) rfl ?_
  intro p e s m args below meth c s₁ B9 hml htab hv
  obtain ⟨rfl, hA, hH⟩ := hv
  have hx := B9.exec
  have hb := B9.bytes
  have hr := B9.returns
  have hts := atoms_spec (ws := wsX5_takeOff) B9.pre
  have hown : s.vm.findClass RX5 = some m.cls := findClass_of_methodNamed B9.named
  have hlocks := B9.notSynchronized
  have hi1 : ∀ w ∈ wsX10, w ∈ wsX5_takeOff := by decide +kernel
  have hi2 : ∀ w ∈ wsX20, w ∈ wsX5_takeOff := by decide +kernel
  have hat_40 : ∀ w ∈ (vx_atS RX5 40 zIse zUp).filter goodWord, w ∈ wsX5_takeOff := fun _ h => by first | exact List.mem_cons_of_mem _ (List.mem_append_right _ h) | exact List.mem_cons_of_mem _ (List.mem_append_left _ (List.mem_append_right _ h)) | exact List.mem_cons_of_mem _ (List.mem_append_left _ (List.mem_append_left _ (List.mem_append_right _ h)))
  have hS : va_S (fun q : Nat => base ≤ q) s.heap s.heap [] := va_S.rf
  have hl := lv_entry ([.ref x, .int its]) (n := 4) (Nat.le_of_ble_eq_true rfl)
  rw [lg_entry_eq]
  generalize (lg_sl ([.ref x, .int its]) ++ List.replicate (4 - (lg_sl ([.ref x, .int its])).length) Slot.unset).toArray = ls at hl ⊢
  have hl : lv_has ls 4 [(0, .ref x), (1, .int its)] := hl
  have hR9 := hR
  obtain ⟨⟨⟨k_x, i503, i504, i505⟩, ⟨p500, p501, p502⟩, k_A, n_A, k_O, n_O, k_T, n_T⟩, ⟨qA, qO, qT⟩, hTool, hPk, ⟨h200, h201, h202, h203, h204, h205, h206, h208, h209, h212, h213⟩, hPo, ⟨h301, h302, h303, hAc⟩, ⟨hOq, hOf⟩, hOr, hInj⟩ := hR9
  rcases vP_split hinv its with ⟨i, rfl, hi, hi10, hvP, hix⟩ | hvP
  · have q_i : zQ w (ad 7 0) i = some (ad 0 i) := by rw [qA i hi10, if_pos hi]
    obtain ⟨k_p, p207, p211, k_f, n_f, k_q, p300, k_r, n_r⟩ := hPk i hi
    by_cases hon : B 11 i = -1
    · have p210 : zP w 210 (ad 0 i) = none := by rw [hPo i hi, if_pos hon]
      refine lv_aload_n hx hb dX5_takeOff_0 rfl (lv_at hl 0 rfl) ?_
      refine lv_iload_n hx hb dX5_takeOff_1 rfl (lv_at hl 1 rfl) ?_
      refine z_xcallr (vx_runV (As := [.int (nI i)]) (rest := []) ⟨hx, hb, hml, hown, hts⟩ (c5_findPerson_t l hl9 D cy base w x i (ad 7 0) (ad 0 i) k_x p500 k_A n_A q_i hi10) (cwV 1 hts gX5_takeOff_X5_findPerson rfl rfl rfl (by decide +kernel) ⟨Nat.le_of_ble_eq_true rfl, Nat.le_of_ble_eq_true rfl⟩) (z_preV hA hS hH (z_recv hA hH (zk0 k_x (by decide)) (zE_k6 k_x) (q := (RX5, TX5, 6)) rfl)) rfl rfl hl.1 rfl (lv_room (Nat.le_of_ble_eq_true rfl)) dX5_takeOff_2 ⟨Nat.le_of_ble_eq_true rfl, Nat.le_of_ble_eq_true rfl⟩) hS (fun E_k_1 ce_k_1 q9_k_1 u_k_1 H locs hw_k_1 hH hz_k_1 hS hce_k_1 hv_k_1 hcl_k_1 => ?_) (fun r_k_1 u_k_1 H locs hw_k_1 hH hz_k_1 hS => ?_)
      · exact hw_k_1.elim
      · rcases hw_k_1 with ⟨rfl, hu_k_1⟩
        rw [hu_k_1] at hH
        refine lv_astore_n (lv' := [(2, .ref (ad 0 i)), (0, .ref x), (1, .int (nI i))]) hx hb dX5_takeOff_5 rfl hl (by decide) rfl (fun ls hl => ?_)
        refine lv_aload_n hx hb dX5_takeOff_6 rfl (lv_at hl 0 rfl) ?_
        refine z_get (C := RX2) (T := TX2) (N := 14) (ci := 2) (index := 124) (v := .null) hx hb hts hi2 hown hA hH (zk0 k_p (by decide)) (zE_k3 k_p) rfl 10 (by decide) (hts (.fieldLink RX5 124 "ParoleCards$Person" "order" "LParoleCards$Order;") (by decide +kernel)) (fun _ h9 => h9) (congrArg (fun z => some (va_rf z)) p210) dX5_takeOff_7 ?_
        refine lv_astore_nN (lv' := [(3, .null), (2, .ref (ad 0 i)), (0, .ref x), (1, .int (nI i))]) hx hb dX5_takeOff_10 rfl hl (by decide) rfl (fun ls hl => ?_)
        refine lv_aload_nN hx hb dX5_takeOff_11 rfl (lv_at hl 0 rfl) ?_
        refine lv_ifnonnullN hx hb dX5_takeOff_12 ?_
        exact z_throwS (cls := zIse) (text := "the person is on no order") (is := 155) (ic := 40) (ik := 36) hx hb hl9 hown (by decide +kernel) (hts (.classLink RX5 36 "java/lang/IllegalStateException") (by decide +kernel)) (hts (.initialized "java/lang/IllegalStateException") (by decide +kernel)) hA (by decide +kernel) (fun w9 h9 => hts w9 (hat_40 w9 h9)) (by decide +kernel) (by decide +kernel) hH hS (hl.1.trans hml.symm) dX5_takeOff_15 dX5_takeOff_18 dX5_takeOff_19 dX5_takeOff_21 dX5_takeOff_24 htab (Nat.le_of_ble_eq_true rfl) (Nat.le_of_ble_eq_true rfl) (Nat.le_of_ble_eq_true rfl) (Nat.le_of_ble_eq_true rfl) hlocks (by
          have hc : (cd_takeOff B (nI i)) = 2 := by first | (simp [cd_takeOff, hvP, hix, hon]; done) | (simp_all [cd_takeOff]; done)
          exact ⟨Or.inr (⟨hc, rfl⟩), rfl⟩) (by decide) (by decide)
    · have p210 : zP w 210 (ad 0 i) = some (ad 5 (ox B i)) := by rw [hPo i hi, if_neg hon]
      obtain ⟨hoe, hoj⟩ := (hinv.2.2.1 i hi).2.2.2.2.resolve_left hon
      obtain ⟨k_o, i100, i101, p102, i103, i104, i105⟩ := hOr (ox B i) hoj
      obtain ⟨k_t, i400, i401⟩ := hTool (kx B (ox B i)) (mInv_kx hinv hoj).2
      refine lv_aload_n hx hb dX5_takeOff_0 rfl (lv_at hl 0 rfl) ?_
      refine lv_iload_n hx hb dX5_takeOff_1 rfl (lv_at hl 1 rfl) ?_
      refine z_xcallr (vx_runV (As := [.int (nI i)]) (rest := []) ⟨hx, hb, hml, hown, hts⟩ (c5_findPerson_t l hl9 D cy base w x i (ad 7 0) (ad 0 i) k_x p500 k_A n_A q_i hi10) (cwV 1 hts gX5_takeOff_X5_findPerson rfl rfl rfl (by decide +kernel) ⟨Nat.le_of_ble_eq_true rfl, Nat.le_of_ble_eq_true rfl⟩) (z_preV hA hS hH (z_recv hA hH (zk0 k_x (by decide)) (zE_k6 k_x) (q := (RX5, TX5, 6)) rfl)) rfl rfl hl.1 rfl (lv_room (Nat.le_of_ble_eq_true rfl)) dX5_takeOff_2 ⟨Nat.le_of_ble_eq_true rfl, Nat.le_of_ble_eq_true rfl⟩) hS (fun E_k_2 ce_k_2 q9_k_2 u_k_2 H locs hw_k_2 hH hz_k_2 hS hce_k_2 hv_k_2 hcl_k_2 => ?_) (fun r_k_2 u_k_2 H locs hw_k_2 hH hz_k_2 hS => ?_)
      · exact hw_k_2.elim
      · rcases hw_k_2 with ⟨rfl, hu_k_2⟩
        rw [hu_k_2] at hH
        refine lv_astore_n (lv' := [(2, .ref (ad 0 i)), (0, .ref x), (1, .int (nI i))]) hx hb dX5_takeOff_5 rfl hl (by decide) rfl (fun ls hl => ?_)
        refine lv_aload_n hx hb dX5_takeOff_6 rfl (lv_at hl 0 rfl) ?_
        refine z_get (C := RX2) (T := TX2) (N := 14) (ci := 2) (index := 124) (v := .ref (ad 5 (ox B i))) hx hb hts hi2 hown hA hH (zk0 k_p (by decide)) (zE_k3 k_p) rfl 10 (by decide) (hts (.fieldLink RX5 124 "ParoleCards$Person" "order" "LParoleCards$Order;") (by decide +kernel)) (fun _ h9 => h9) (congrArg (fun z => some (va_rf z)) p210) dX5_takeOff_7 ?_
        refine lv_astore_n (lv' := [(3, .ref (ad 5 (ox B i))), (2, .ref (ad 0 i)), (0, .ref x), (1, .int (nI i))]) hx hb dX5_takeOff_10 rfl hl (by decide) rfl (fun ls hl => ?_)
        refine lv_aload_n hx hb dX5_takeOff_11 rfl (lv_at hl 0 rfl) ?_
        refine lv_ifnonnull (tgt := 25) hx hb dX5_takeOff_12 (by decide) ?_
        refine lv_aload_n hx hb dX5_takeOff_25 rfl (lv_at hl 1 rfl) ?_
        refine z_callv (va_runV (As := []) (rest := []) ⟨hx, hb, hml, hown, hts⟩ (c2_leaveOrder_s l D cy base w (ad 0 i) (ad 5 (ox B i)) (ad 6 (kx B (ox B i))) k_p p210 k_o p102 k_t) (cwV 0 hts gX5_takeOff_X2_leaveOrder rfl rfl rfl (by decide +kernel) ⟨Nat.le_of_ble_eq_true rfl, Nat.le_of_ble_eq_true rfl⟩) (z_preV hA hS hH (z_recv hA hH (zk0 k_p (by decide)) (zE_k3 k_p) (q := (RX2, TX2, 14)) rfl)) rfl rfl hl.1 rfl (lv_room (Nat.le_of_ble_eq_true rfl)) dX5_takeOff_26 ⟨Nat.le_of_ble_eq_true rfl, Nat.le_of_ble_eq_true rfl⟩) hS (fun u_k_3 H locs hw_k_3 hH hz_k_3 hS => ?_)
        have hu_k_3 := hw_k_3
        rw [hu_k_3] at hH
        refine lv_aload_n hx hb dX5_takeOff_29 rfl (lv_at hl 0 rfl) ?_
        refine z_get (C := RX1) (T := TX1) (N := 6) (ci := 1) (index := 160) (v := .int (zI w 100 (ad 5 (ox B i)))) hx hb hts hi1 hown hA hH (zk0 k_o (by decide)) (zE_k2 k_o) rfl 0 (by decide) (hts (.fieldLink RX5 160 "ParoleCards$Order" "number" "I") (by decide +kernel)) (fun _ h9 => h9) rfl dX5_takeOff_30 ?_
        refine vx_ret ?_
        exact z_iret hx hb hr hlocks hH hS (by
          have hc : (cd_takeOff B (nI i)) = 0 := by first | (simp [cd_takeOff, hvP, hix, hon]; done) | (simp_all [cd_takeOff]; done)
          refine ⟨hc, ?_, ?_⟩
          · show _ = B 11 (ix (nI i))
            rw [hix]; exact i100.trans hoe.symm
          · unfold up_takeOff; rw [hix]
            exact ⟨⟨ad, ra_leave hR hinv hi hon⟩, (cP (k := 3) (cI (k := 5) (cI (k := 2) (cFr_rf _) k_o (by decide)) k_t (by decide)) k_p (by decide))⟩) (by decide) (by decide) dX5_takeOff_33
  · have hno := vP_no hinv hvP qA
    refine lv_aload_n hx hb dX5_takeOff_0 rfl (lv_at hl 0 rfl) ?_
    refine lv_iload_n hx hb dX5_takeOff_1 rfl (lv_at hl 1 rfl) ?_
    refine z_xcallr (vx_runV (As := [.int its]) (rest := []) ⟨hx, hb, hml, hown, hts⟩ (c5_findPerson_f l hl9 D cy base w x its (ad 7 0) k_x p500 k_A n_A hno) (cwV 1 hts gX5_takeOff_X5_findPerson rfl rfl rfl (by decide +kernel) ⟨Nat.le_of_ble_eq_true rfl, Nat.le_of_ble_eq_true rfl⟩) (z_preV hA hS hH (z_recv hA hH (zk0 k_x (by decide)) (zE_k6 k_x) (q := (RX5, TX5, 6)) rfl)) rfl rfl hl.1 rfl (lv_room (Nat.le_of_ble_eq_true rfl)) dX5_takeOff_2 ⟨Nat.le_of_ble_eq_true rfl, Nat.le_of_ble_eq_true rfl⟩) hS (fun E_k_4 ce_k_4 q9_k_4 u_k_4 H locs hw_k_4 hH hz_k_4 hS hce_k_4 hv_k_4 hcl_k_4 => ?_) (fun r_k_4 u_k_4 H locs hw_k_4 hH hz_k_4 hS => ?_)
    · obtain ⟨rfl, hu_k_4⟩ := hw_k_4
      rw [hu_k_4] at hH
      exact z_out htab hlocks hH hS hce_k_4 hv_k_4 hcl_k_4 (by
        have hc : (cd_takeOff B its) = 1 := by first | (simp [cd_takeOff, hvP]; done) | (simp_all [cd_takeOff]; done)
        exact ⟨Or.inl (⟨hc, rfl⟩), rfl⟩) (by decide) (by decide)
    · exact hw_k_4.elim
set_option maxHeartbeats 4000000 in
set_option maxRecDepth 100000 in
theorem c5_assign (l : Launch) (hl9 : l.stackTraces = false) (D : va_G) (cy : Nat → ClassId) (base : Nat) (w : zW) (x : Nat) (ad : Nat → Nat → Nat) (B : mB) (its : Int32) (o : Int32) (hR : rAll w x ad B) (hinv : mInv B) (hinv2 : mInv2 B) : vx_Met l yX5_assign wsX5_assign ({ frames := 7, cells := 6, slots := 70, locals := 112 }) (zPc D cy base (zH D cy base) [.ref x, .int its, .int o] w) (zQi base (zH D cy base) (fun (r0 : Int32) (u0 : zW) => (cd_assign B its o) = 0 ∧ r0 = (an_assign B its o) ∧ Rep u0 x (up_assign B its o) ∧ cFr w u0)) (zXC base (zH D cy base) (fun (E : String) (u0 : zW) => thr2 (cd_assign B its o) E ∧ u0 = w)) 6 70 (fun q => base ≤ q) := by
  refine vx_ofW (cc := cX5_assign) (maxL := 5) (ret := (some .int)) (by decide) rfl ?_
  intro p e s m args below meth c s₁ B9 hml htab hv
  obtain ⟨rfl, hA, hH⟩ := hv
  have hx := B9.exec
  have hb := B9.bytes
  have hr := B9.returns
  have hts := atoms_spec (ws := wsX5_assign) B9.pre
  have hown : s.vm.findClass RX5 = some m.cls := findClass_of_methodNamed B9.named
  have hlocks := B9.notSynchronized
  have hi1 : ∀ w ∈ wsX10, w ∈ wsX5_assign := by decide +kernel
  have hi2 : ∀ w ∈ wsX20, w ∈ wsX5_assign := by decide +kernel
  have hat_40 : ∀ w ∈ (vx_atS RX5 40 zIse zUp).filter goodWord, w ∈ wsX5_assign := fun _ h => by first | exact List.mem_cons_of_mem _ (List.mem_append_right _ h) | exact List.mem_cons_of_mem _ (List.mem_append_left _ (List.mem_append_right _ h)) | exact List.mem_cons_of_mem _ (List.mem_append_left _ (List.mem_append_left _ (List.mem_append_right _ h)))
  have hS : va_S (fun q : Nat => base ≤ q) s.heap s.heap [] := va_S.rf
  have hl := lv_entry ([.ref x, .int its, .int o]) (n := 5) (Nat.le_of_ble_eq_true rfl)
  rw [lg_entry_eq]
  generalize (lg_sl ([.ref x, .int its, .int o]) ++ List.replicate (5 - (lg_sl ([.ref x, .int its, .int o])).length) Slot.unset).toArray = ls at hl ⊢
  have hl : lv_has ls 5 [(0, .ref x), (1, .int its), (2, .int o)] := hl
  have hR9 := hR
  obtain ⟨⟨⟨k_x, i503, i504, i505⟩, ⟨p500, p501, p502⟩, k_A, n_A, k_O, n_O, k_T, n_T⟩, ⟨qA, qO, qT⟩, hTool, hPk, ⟨h200, h201, h202, h203, h204, h205, h206, h208, h209, h212, h213⟩, hPo, ⟨h301, h302, h303, hAc⟩, ⟨hOq, hOf⟩, hOr, hInj⟩ := hR9
  rcases vP_split hinv its with ⟨i, rfl, hi, hi10, hvP, hix⟩ | hvP
  · have q_i : zQ w (ad 7 0) i = some (ad 0 i) := by rw [qA i hi10, if_pos hi]
    obtain ⟨k_p, p207, p211, k_f, n_f, k_q, p300, k_r, n_r⟩ := hPk i hi
    rcases vO_split hinv o with ⟨j, rfl, hj, hj8, hvO, hjx⟩ | hvO
    · have q_j : zQ w (ad 7 1) j = some (ad 5 j) := by rw [qO j hj8, if_pos hj]
      obtain ⟨k_o, i100, i101, p102, i103, i104, i105⟩ := hOr j hj
      obtain ⟨k_t, i400, i401⟩ := hTool (kx B j) (mInv_kx hinv hj).2
      obtain ⟨hsx, hs4⟩ := (hinv.2.2.2 j hj).2.2
      have e_sk : ((zI w 202 (ad 0 i)) &&& (1 <<< ((zI w 101 (ad 5 j)) &&& 31))) = 0 ↔ ¬ ((B 5 i >>> (B 23 j &&& 31)) &&& 1 = 1) := by rw [i101, h202 i hi, hsx]; exact sk_eq _ _ hs4
      by_cases hon : B 11 i = -1
      · have p210 : zP w 210 (ad 0 i) = none := by rw [hPo i hi, if_pos hon]
        refine lv_aload_n hx hb dX5_assign_0 rfl (lv_at hl 0 rfl) ?_
        refine lv_iload_n hx hb dX5_assign_1 rfl (lv_at hl 1 rfl) ?_
        refine z_xcallr (vx_runV (As := [.int (nI i)]) (rest := []) ⟨hx, hb, hml, hown, hts⟩ (c5_findPerson_t l hl9 D cy base w x i (ad 7 0) (ad 0 i) k_x p500 k_A n_A q_i hi10) (cwV 1 hts gX5_assign_X5_findPerson rfl rfl rfl (by decide +kernel) ⟨Nat.le_of_ble_eq_true rfl, Nat.le_of_ble_eq_true rfl⟩) (z_preV hA hS hH (z_recv hA hH (zk0 k_x (by decide)) (zE_k6 k_x) (q := (RX5, TX5, 6)) rfl)) rfl rfl hl.1 rfl (lv_room (Nat.le_of_ble_eq_true rfl)) dX5_assign_2 ⟨Nat.le_of_ble_eq_true rfl, Nat.le_of_ble_eq_true rfl⟩) hS (fun E_k_1 ce_k_1 q9_k_1 u_k_1 H locs hw_k_1 hH hz_k_1 hS hce_k_1 hv_k_1 hcl_k_1 => ?_) (fun r_k_1 u_k_1 H locs hw_k_1 hH hz_k_1 hS => ?_)
        · exact hw_k_1.elim
        · rcases hw_k_1 with ⟨rfl, hu_k_1⟩
          rw [hu_k_1] at hH
          refine lv_astore_n (lv' := [(3, .ref (ad 0 i)), (0, .ref x), (1, .int (nI i)), (2, .int (nI j))]) hx hb dX5_assign_5 rfl hl (by decide) rfl (fun ls hl => ?_)
          refine lv_aload_n hx hb dX5_assign_6 rfl (lv_at hl 1 rfl) ?_
          refine lv_iload_n hx hb dX5_assign_7 rfl (lv_at hl 3 rfl) ?_
          refine z_xcallr (vx_runV (As := [.int (nI j)]) (rest := []) ⟨hx, hb, hml, hown, hts⟩ (c5_findOrder_t l hl9 D cy base w x j (ad 7 1) (ad 5 j) k_x p501 k_O n_O q_j hj8) (cwV 1 hts gX5_assign_X5_findOrder rfl rfl rfl (by decide +kernel) ⟨Nat.le_of_ble_eq_true rfl, Nat.le_of_ble_eq_true rfl⟩) (z_preV hA hS hH (z_recv hA hH (zk0 k_x (by decide)) (zE_k6 k_x) (q := (RX5, TX5, 6)) rfl)) rfl rfl hl.1 rfl (lv_room (Nat.le_of_ble_eq_true rfl)) dX5_assign_8 ⟨Nat.le_of_ble_eq_true rfl, Nat.le_of_ble_eq_true rfl⟩) hS (fun E_k_2 ce_k_2 q9_k_2 u_k_2 H locs hw_k_2 hH hz_k_2 hS hce_k_2 hv_k_2 hcl_k_2 => ?_) (fun r_k_2 u_k_2 H locs hw_k_2 hH hz_k_2 hS => ?_)
          · exact hw_k_2.elim
          · rcases hw_k_2 with ⟨rfl, hu_k_2⟩
            rw [hu_k_2] at hH
            refine lv_astore (lv' := [(4, .ref (ad 5 j)), (3, .ref (ad 0 i)), (0, .ref x), (1, .int (nI i)), (2, .int (nI j))]) hx hb dX5_assign_11 hl (by decide) rfl (fun ls hl => ?_)
            refine lv_aload_n hx hb dX5_assign_13 rfl (lv_at hl 1 rfl) ?_
            refine z_xcallv (vx_runS (As := [.ref (ad 0 i)]) (rest := []) ⟨hx, hb, hml, hown, hts⟩ (c5_checkIn l hl9 D cy base w (ad 0 i) k_p) (va_cwS 1 hts gX5_assign_X5_checkIn rfl rfl rfl (by decide +kernel) ⟨Nat.le_of_ble_eq_true rfl, Nat.le_of_ble_eq_true rfl⟩) (z_preS hA hS hH) rfl rfl hl.1 rfl (lv_room (Nat.le_of_ble_eq_true rfl)) dX5_assign_14 ⟨Nat.le_of_ble_eq_true rfl, Nat.le_of_ble_eq_true rfl⟩) hS (fun E_k_3 ce_k_3 q9_k_3 u_k_3 H locs hw_k_3 hH hz_k_3 hS hce_k_3 hv_k_3 hcl_k_3 => ?_) (fun u_k_3 H locs hw_k_3 hH hz_k_3 hS => ?_)
            · obtain ⟨t_k_3_0, rfl, hu_k_3⟩ := hw_k_3
              rw [hu_k_3] at hH
              have hIn : ¬ B 2 i = 0 := fun z => t_k_3_0 ((h212 i hi).trans z)
              exact z_out htab hlocks hH hS hce_k_3 hv_k_3 hcl_k_3 (by
                have hc : (cd_assign B (nI i) (nI j)) = 2 := by first | (simp [cd_assign, t_k_3_0, hvP, hix, hvO, hjx, hon, hIn]; done) | (simp_all [cd_assign]; done)
                exact ⟨Or.inr (⟨hc, rfl⟩), rfl⟩) (by decide) (by decide)
            · rcases hw_k_3 with ⟨h_k_3_0, hu_k_3⟩
              rw [hu_k_3] at hH
              have hIn : B 2 i = 0 := (h212 i hi).symm.trans h_k_3_0
              refine lv_aload_n hx hb dX5_assign_17 rfl (lv_at hl 1 rfl) ?_
              refine z_get (C := RX2) (T := TX2) (N := 14) (ci := 2) (index := 124) (v := .null) hx hb hts hi2 hown hA hH (zk0 k_p (by decide)) (zE_k3 k_p) rfl 10 (by decide) (hts (.fieldLink RX5 124 "ParoleCards$Person" "order" "LParoleCards$Order;") (by decide +kernel)) (fun _ h9 => h9) (congrArg (fun z => some (va_rf z)) p210) dX5_assign_18 ?_
              refine lv_ifnullN (tgt := 34) hx hb dX5_assign_21 (by decide) ?_
              refine lv_aload_n hx hb dX5_assign_34 rfl (lv_at hl 1 rfl) ?_
              refine lv_aload hx hb dX5_assign_35 (lv_at hl 0 rfl) ?_
              refine z_get (C := RX1) (T := TX1) (N := 6) (ci := 1) (index := 130) (v := .int (zI w 101 (ad 5 j))) hx hb hts hi1 hown hA hH (zk0 k_o (by decide)) (zE_k2 k_o) rfl 1 (by decide) (hts (.fieldLink RX5 130 "ParoleCards$Order" "skill" "I") (by decide +kernel)) (fun _ h9 => h9) rfl dX5_assign_37 ?_
              refine z_calli (va_runV (As := [.int (zI w 101 (ad 5 j))]) (rest := []) ⟨hx, hb, hml, hown, hts⟩ (c2_hasSkill l D cy base w (ad 0 i) (zI w 101 (ad 5 j)) k_p) (cwV 1 hts gX5_assign_X2_hasSkill rfl rfl rfl (by decide +kernel) ⟨Nat.le_of_ble_eq_true rfl, Nat.le_of_ble_eq_true rfl⟩) (z_preV hA hS hH (z_recv hA hH (zk0 k_p (by decide)) (zE_k3 k_p) (q := (RX2, TX2, 14)) rfl)) rfl rfl hl.1 rfl (lv_room (Nat.le_of_ble_eq_true rfl)) dX5_assign_40 ⟨Nat.le_of_ble_eq_true rfl, Nat.le_of_ble_eq_true rfl⟩) hS (fun r_k_4 u_k_4 H locs hw_k_4 hH hz_k_4 hS => ?_)
              rcases hw_k_4 with ⟨h_k_4_0, rfl, hu_k_4⟩ | ⟨h_k_4_0, rfl, hu_k_4⟩
              · rw [hu_k_4] at hH
                have hSk : (B 5 i >>> (B 23 j &&& 31)) &&& 1 = 1 := Classical.not_not.mp (fun z => h_k_4_0 (e_sk.mpr z))
                refine lv_if_ne (tgt := 56) hx hb dX5_assign_43 (by decide) (fun _ => ?_) (fun c_5 => absurd c_5 (by decide))
                refine lv_aload hx hb dX5_assign_56 (lv_at hl 0 rfl) ?_
                refine z_calli (va_runV (As := []) (rest := []) ⟨hx, hb, hml, hown, hts⟩ (c1_isFinished l D cy base w (ad 5 j) k_o) (cwV 0 hts gX5_assign_X1_isFinished rfl rfl rfl (by decide +kernel) ⟨Nat.le_of_ble_eq_true rfl, Nat.le_of_ble_eq_true rfl⟩) (z_preV hA hS hH (z_recv hA hH (zk0 k_o (by decide)) (zE_k2 k_o) (q := (RX1, TX1, 6)) rfl)) rfl rfl hl.1 rfl (lv_room (Nat.le_of_ble_eq_true rfl)) dX5_assign_58 ⟨Nat.le_of_ble_eq_true rfl, Nat.le_of_ble_eq_true rfl⟩) hS (fun r_k_6 u_k_6 H locs hw_k_6 hH hz_k_6 hS => ?_)
                rcases hw_k_6 with ⟨h_k_6_0, rfl, hu_k_6⟩ | ⟨h_k_6_0, rfl, hu_k_6⟩
                · rw [hu_k_6] at hH
                  have hFn : ¬ 0 < B 25 j := by rw [← i104]; exact Int32.not_lt.mpr h_k_6_0
                  refine lv_if_ne (tgt := 72) hx hb dX5_assign_61 (by decide) (fun _ => ?_) (fun c_7 => absurd c_7 (by decide))
                  exact z_throwS (cls := zIse) (text := "the order takes nobody now") (is := 146) (ic := 40) (ik := 36) hx hb hl9 hown (by decide +kernel) (hts (.classLink RX5 36 "java/lang/IllegalStateException") (by decide +kernel)) (hts (.initialized "java/lang/IllegalStateException") (by decide +kernel)) hA (by decide +kernel) (fun w9 h9 => hts w9 (hat_40 w9 h9)) (by decide +kernel) (by decide +kernel) hH hS (hl.1.trans hml.symm) dX5_assign_72 dX5_assign_75 dX5_assign_76 dX5_assign_78 dX5_assign_81 htab (Nat.le_of_ble_eq_true rfl) (Nat.le_of_ble_eq_true rfl) (Nat.le_of_ble_eq_true rfl) (Nat.le_of_ble_eq_true rfl) hlocks (by
                    have hc : (cd_assign B (nI i) (nI j)) = 2 := by first | (simp [cd_assign, h_k_3_0, h_k_4_0, h_k_6_0, hvP, hix, hvO, hjx, hon, hIn, hSk, hFn]; done) | (simp_all [cd_assign]; done)
                    exact ⟨Or.inr (⟨hc, rfl⟩), rfl⟩) (by decide) (by decide)
                · rw [hu_k_6] at hH
                  have hFn : 0 < B 25 j := by rw [← i104]; exact Int32.not_le.mp h_k_6_0
                  refine lv_if_ne (tgt := 72) hx hb dX5_assign_61 (by decide) (fun c_8 => absurd c_8 (by decide)) (fun _ => ?_)
                  refine lv_aload hx hb dX5_assign_64 (lv_at hl 0 rfl) ?_
                  refine z_calli (va_runV (As := []) (rest := []) ⟨hx, hb, hml, hown, hts⟩ (c1_hasFreeTool l D cy base w (ad 5 j) (ad 6 (kx B j)) k_o p102 k_t) (cwV 0 hts gX5_assign_X1_hasFreeTool rfl rfl rfl (by decide +kernel) ⟨Nat.le_of_ble_eq_true rfl, Nat.le_of_ble_eq_true rfl⟩) (z_preV hA hS hH (z_recv hA hH (zk0 k_o (by decide)) (zE_k2 k_o) (q := (RX1, TX1, 6)) rfl)) rfl rfl hl.1 rfl (lv_room (Nat.le_of_ble_eq_true rfl)) dX5_assign_66 ⟨Nat.le_of_ble_eq_true rfl, Nat.le_of_ble_eq_true rfl⟩) hS (fun r_k_9 u_k_9 H locs hw_k_9 hH hz_k_9 hS => ?_)
                  rcases hw_k_9 with ⟨h_k_9_0, rfl, hu_k_9⟩ | ⟨h_k_9_0, rfl, hu_k_9⟩
                  · rw [hu_k_9] at hH
                    have hTl : sOut B (B 24 j) (nP B) < B 21 (kx B j) := by rw [(mInv_kx hinv hj).1, ← i401, ← i400]; exact h_k_9_0
                    refine lv_if_ne (tgt := 82) hx hb dX5_assign_69 (by decide) (fun _ => ?_) (fun c_10 => absurd c_10 (by decide))
                    refine lv_aload_n hx hb dX5_assign_82 rfl (lv_at hl 1 rfl) ?_
                    refine lv_aload hx hb dX5_assign_83 (lv_at hl 0 rfl) ?_
                    refine z_callv (va_runV (As := [.ref (ad 5 j)]) (rest := []) ⟨hx, hb, hml, hown, hts⟩ (c2_joinOrder l D cy base w (ad 0 i) (ad 5 j) (ad 6 (kx B j)) k_p k_o p102 k_t) (cwV 1 hts gX5_assign_X2_joinOrder rfl rfl rfl (by decide +kernel) ⟨Nat.le_of_ble_eq_true rfl, Nat.le_of_ble_eq_true rfl⟩) (z_preV hA hS hH (z_recv hA hH (zk0 k_p (by decide)) (zE_k3 k_p) (q := (RX2, TX2, 14)) rfl)) rfl rfl hl.1 rfl (lv_room (Nat.le_of_ble_eq_true rfl)) dX5_assign_85 ⟨Nat.le_of_ble_eq_true rfl, Nat.le_of_ble_eq_true rfl⟩) hS (fun u_k_11 H locs hw_k_11 hH hz_k_11 hS => ?_)
                    have hu_k_11 := hw_k_11
                    rw [hu_k_11] at hH
                    refine lv_aload hx hb dX5_assign_88 (lv_at hl 0 rfl) ?_
                    refine z_get (C := RX1) (T := TX1) (N := 6) (ci := 1) (index := 152) (v := .int ((zI w 105 (ad 5 j)) + 1)) hx hb hts hi1 hown hA hH (zk0 k_o (by decide)) (zE_k2 k_o) rfl 5 (by decide) (hts (.fieldLink RX5 152 "ParoleCards$Order" "peopleOnIt" "I") (by decide +kernel)) (fun _ h9 => h9) (congrArg (fun z => some (Value.int z)) (z2_same (zsP w 210 (ad 0 i) (some (ad 5 j))).2.1 105 (ad 5 j) ((zI w 105 (ad 5 j)) + 1))) dX5_assign_90 ?_
                    refine vx_ret ?_
                    exact z_iret hx hb hr hlocks hH hS (by
                      have hc : (cd_assign B (nI i) (nI j)) = 0 := by first | (simp [cd_assign, h_k_3_0, h_k_4_0, h_k_6_0, h_k_9_0, hvP, hix, hvO, hjx, hon, hIn, hSk, hFn, hTl]; done) | (simp_all [cd_assign]; done)
                      refine ⟨hc, ?_, ?_⟩
                      · have hR2 := ra_join hR hinv hi hj hon
                        have e9 := (hR2.2.2.2.2.2.2.2.2.1 j hj).2.2.2.2.2.2
                        show _ = sOn (up_assign B (nI i) (nI j)) (nI j) (nP B)
                        unfold up_assign; rw [hix]
                        exact (z2_same (zsP w 210 (ad 0 i) (some (ad 5 j))).2.1 105 (ad 5 j) (zI w 105 (ad 5 j) + 1)).symm.trans e9
                      · unfold up_assign; rw [hix]
                        exact ⟨⟨ad, ra_join hR hinv hi hj hon⟩, (cI (k := 5) (cI (k := 2) (cP (k := 3) (cFr_rf _) k_p (by decide)) k_o (by decide)) k_t (by decide))⟩) (by decide) (by decide) dX5_assign_93
                  · rw [hu_k_9] at hH
                    have hTl : ¬ sOut B (B 24 j) (nP B) < B 21 (kx B j) := by rw [(mInv_kx hinv hj).1, ← i401, ← i400]; exact h_k_9_0
                    refine lv_if_ne (tgt := 82) hx hb dX5_assign_69 (by decide) (fun c_12 => absurd c_12 (by decide)) (fun _ => ?_)
                    exact z_throwS (cls := zIse) (text := "the order takes nobody now") (is := 146) (ic := 40) (ik := 36) hx hb hl9 hown (by decide +kernel) (hts (.classLink RX5 36 "java/lang/IllegalStateException") (by decide +kernel)) (hts (.initialized "java/lang/IllegalStateException") (by decide +kernel)) hA (by decide +kernel) (fun w9 h9 => hts w9 (hat_40 w9 h9)) (by decide +kernel) (by decide +kernel) hH hS (hl.1.trans hml.symm) dX5_assign_72 dX5_assign_75 dX5_assign_76 dX5_assign_78 dX5_assign_81 htab (Nat.le_of_ble_eq_true rfl) (Nat.le_of_ble_eq_true rfl) (Nat.le_of_ble_eq_true rfl) (Nat.le_of_ble_eq_true rfl) hlocks (by
                      have hc : (cd_assign B (nI i) (nI j)) = 2 := by first | (simp [cd_assign, h_k_3_0, h_k_4_0, h_k_6_0, h_k_9_0, hvP, hix, hvO, hjx, hon, hIn, hSk, hFn, hTl]; done) | (simp_all [cd_assign]; done)
                      exact ⟨Or.inr (⟨hc, rfl⟩), rfl⟩) (by decide) (by decide)
              · rw [hu_k_4] at hH
                have hSk : ¬ ((B 5 i >>> (B 23 j &&& 31)) &&& 1 = 1) := e_sk.mp h_k_4_0
                refine lv_if_ne (tgt := 56) hx hb dX5_assign_43 (by decide) (fun c_13 => absurd c_13 (by decide)) (fun _ => ?_)
                exact z_throwS (cls := zIse) (text := "the person has not the skill") (is := 137) (ic := 40) (ik := 36) hx hb hl9 hown (by decide +kernel) (hts (.classLink RX5 36 "java/lang/IllegalStateException") (by decide +kernel)) (hts (.initialized "java/lang/IllegalStateException") (by decide +kernel)) hA (by decide +kernel) (fun w9 h9 => hts w9 (hat_40 w9 h9)) (by decide +kernel) (by decide +kernel) hH hS (hl.1.trans hml.symm) dX5_assign_46 dX5_assign_49 dX5_assign_50 dX5_assign_52 dX5_assign_55 htab (Nat.le_of_ble_eq_true rfl) (Nat.le_of_ble_eq_true rfl) (Nat.le_of_ble_eq_true rfl) (Nat.le_of_ble_eq_true rfl) hlocks (by
                  have hc : (cd_assign B (nI i) (nI j)) = 2 := by first | (simp [cd_assign, h_k_3_0, h_k_4_0, hvP, hix, hvO, hjx, hon, hIn, hSk]; done) | (simp_all [cd_assign]; done)
                  exact ⟨Or.inr (⟨hc, rfl⟩), rfl⟩) (by decide) (by decide)
      · have p210 : zP w 210 (ad 0 i) = some (ad 5 (ox B i)) := by rw [hPo i hi, if_neg hon]
        obtain ⟨hoe, hoj⟩ := (hinv.2.2.1 i hi).2.2.2.2.resolve_left hon
        obtain ⟨k_o, i100, i101, p102, i103, i104, i105⟩ := hOr (ox B i) hoj
        obtain ⟨k_t, i400, i401⟩ := hTool (kx B (ox B i)) (mInv_kx hinv hoj).2
        refine lv_aload_n hx hb dX5_assign_0 rfl (lv_at hl 0 rfl) ?_
        refine lv_iload_n hx hb dX5_assign_1 rfl (lv_at hl 1 rfl) ?_
        refine z_xcallr (vx_runV (As := [.int (nI i)]) (rest := []) ⟨hx, hb, hml, hown, hts⟩ (c5_findPerson_t l hl9 D cy base w x i (ad 7 0) (ad 0 i) k_x p500 k_A n_A q_i hi10) (cwV 1 hts gX5_assign_X5_findPerson rfl rfl rfl (by decide +kernel) ⟨Nat.le_of_ble_eq_true rfl, Nat.le_of_ble_eq_true rfl⟩) (z_preV hA hS hH (z_recv hA hH (zk0 k_x (by decide)) (zE_k6 k_x) (q := (RX5, TX5, 6)) rfl)) rfl rfl hl.1 rfl (lv_room (Nat.le_of_ble_eq_true rfl)) dX5_assign_2 ⟨Nat.le_of_ble_eq_true rfl, Nat.le_of_ble_eq_true rfl⟩) hS (fun E_k_14 ce_k_14 q9_k_14 u_k_14 H locs hw_k_14 hH hz_k_14 hS hce_k_14 hv_k_14 hcl_k_14 => ?_) (fun r_k_14 u_k_14 H locs hw_k_14 hH hz_k_14 hS => ?_)
        · exact hw_k_14.elim
        · rcases hw_k_14 with ⟨rfl, hu_k_14⟩
          rw [hu_k_14] at hH
          refine lv_astore_n (lv' := [(3, .ref (ad 0 i)), (0, .ref x), (1, .int (nI i)), (2, .int (nI j))]) hx hb dX5_assign_5 rfl hl (by decide) rfl (fun ls hl => ?_)
          refine lv_aload_n hx hb dX5_assign_6 rfl (lv_at hl 1 rfl) ?_
          refine lv_iload_n hx hb dX5_assign_7 rfl (lv_at hl 3 rfl) ?_
          refine z_xcallr (vx_runV (As := [.int (nI j)]) (rest := []) ⟨hx, hb, hml, hown, hts⟩ (c5_findOrder_t l hl9 D cy base w x j (ad 7 1) (ad 5 j) k_x p501 k_O n_O q_j hj8) (cwV 1 hts gX5_assign_X5_findOrder rfl rfl rfl (by decide +kernel) ⟨Nat.le_of_ble_eq_true rfl, Nat.le_of_ble_eq_true rfl⟩) (z_preV hA hS hH (z_recv hA hH (zk0 k_x (by decide)) (zE_k6 k_x) (q := (RX5, TX5, 6)) rfl)) rfl rfl hl.1 rfl (lv_room (Nat.le_of_ble_eq_true rfl)) dX5_assign_8 ⟨Nat.le_of_ble_eq_true rfl, Nat.le_of_ble_eq_true rfl⟩) hS (fun E_k_15 ce_k_15 q9_k_15 u_k_15 H locs hw_k_15 hH hz_k_15 hS hce_k_15 hv_k_15 hcl_k_15 => ?_) (fun r_k_15 u_k_15 H locs hw_k_15 hH hz_k_15 hS => ?_)
          · exact hw_k_15.elim
          · rcases hw_k_15 with ⟨rfl, hu_k_15⟩
            rw [hu_k_15] at hH
            refine lv_astore (lv' := [(4, .ref (ad 5 j)), (3, .ref (ad 0 i)), (0, .ref x), (1, .int (nI i)), (2, .int (nI j))]) hx hb dX5_assign_11 hl (by decide) rfl (fun ls hl => ?_)
            refine lv_aload_n hx hb dX5_assign_13 rfl (lv_at hl 1 rfl) ?_
            refine z_xcallv (vx_runS (As := [.ref (ad 0 i)]) (rest := []) ⟨hx, hb, hml, hown, hts⟩ (c5_checkIn l hl9 D cy base w (ad 0 i) k_p) (va_cwS 1 hts gX5_assign_X5_checkIn rfl rfl rfl (by decide +kernel) ⟨Nat.le_of_ble_eq_true rfl, Nat.le_of_ble_eq_true rfl⟩) (z_preS hA hS hH) rfl rfl hl.1 rfl (lv_room (Nat.le_of_ble_eq_true rfl)) dX5_assign_14 ⟨Nat.le_of_ble_eq_true rfl, Nat.le_of_ble_eq_true rfl⟩) hS (fun E_k_16 ce_k_16 q9_k_16 u_k_16 H locs hw_k_16 hH hz_k_16 hS hce_k_16 hv_k_16 hcl_k_16 => ?_) (fun u_k_16 H locs hw_k_16 hH hz_k_16 hS => ?_)
            · obtain ⟨t_k_16_0, rfl, hu_k_16⟩ := hw_k_16
              rw [hu_k_16] at hH
              have hIn : ¬ B 2 i = 0 := fun z => t_k_16_0 ((h212 i hi).trans z)
              exact z_out htab hlocks hH hS hce_k_16 hv_k_16 hcl_k_16 (by
                have hc : (cd_assign B (nI i) (nI j)) = 2 := by first | (simp [cd_assign, t_k_16_0, hvP, hix, hvO, hjx, hon, hIn]; done) | (simp_all [cd_assign]; done)
                exact ⟨Or.inr (⟨hc, rfl⟩), rfl⟩) (by decide) (by decide)
            · rcases hw_k_16 with ⟨h_k_16_0, hu_k_16⟩
              rw [hu_k_16] at hH
              have hIn : B 2 i = 0 := (h212 i hi).symm.trans h_k_16_0
              refine lv_aload_n hx hb dX5_assign_17 rfl (lv_at hl 1 rfl) ?_
              refine z_get (C := RX2) (T := TX2) (N := 14) (ci := 2) (index := 124) (v := .ref (ad 5 (ox B i))) hx hb hts hi2 hown hA hH (zk0 k_p (by decide)) (zE_k3 k_p) rfl 10 (by decide) (hts (.fieldLink RX5 124 "ParoleCards$Person" "order" "LParoleCards$Order;") (by decide +kernel)) (fun _ h9 => h9) (congrArg (fun z => some (va_rf z)) p210) dX5_assign_18 ?_
              refine lv_ifnull hx hb dX5_assign_21 ?_
              exact z_throwS (cls := zIse) (text := "the person is on an order") (is := 128) (ic := 40) (ik := 36) hx hb hl9 hown (by decide +kernel) (hts (.classLink RX5 36 "java/lang/IllegalStateException") (by decide +kernel)) (hts (.initialized "java/lang/IllegalStateException") (by decide +kernel)) hA (by decide +kernel) (fun w9 h9 => hts w9 (hat_40 w9 h9)) (by decide +kernel) (by decide +kernel) hH hS (hl.1.trans hml.symm) dX5_assign_24 dX5_assign_27 dX5_assign_28 dX5_assign_30 dX5_assign_33 htab (Nat.le_of_ble_eq_true rfl) (Nat.le_of_ble_eq_true rfl) (Nat.le_of_ble_eq_true rfl) (Nat.le_of_ble_eq_true rfl) hlocks (by
                have hc : (cd_assign B (nI i) (nI j)) = 2 := by first | (simp [cd_assign, h_k_16_0, hvP, hix, hvO, hjx, hon, hIn]; done) | (simp_all [cd_assign]; done)
                exact ⟨Or.inr (⟨hc, rfl⟩), rfl⟩) (by decide) (by decide)
    · have hno2 := vO_no hinv hvO qO
      refine lv_aload_n hx hb dX5_assign_0 rfl (lv_at hl 0 rfl) ?_
      refine lv_iload_n hx hb dX5_assign_1 rfl (lv_at hl 1 rfl) ?_
      refine z_xcallr (vx_runV (As := [.int (nI i)]) (rest := []) ⟨hx, hb, hml, hown, hts⟩ (c5_findPerson_t l hl9 D cy base w x i (ad 7 0) (ad 0 i) k_x p500 k_A n_A q_i hi10) (cwV 1 hts gX5_assign_X5_findPerson rfl rfl rfl (by decide +kernel) ⟨Nat.le_of_ble_eq_true rfl, Nat.le_of_ble_eq_true rfl⟩) (z_preV hA hS hH (z_recv hA hH (zk0 k_x (by decide)) (zE_k6 k_x) (q := (RX5, TX5, 6)) rfl)) rfl rfl hl.1 rfl (lv_room (Nat.le_of_ble_eq_true rfl)) dX5_assign_2 ⟨Nat.le_of_ble_eq_true rfl, Nat.le_of_ble_eq_true rfl⟩) hS (fun E_k_17 ce_k_17 q9_k_17 u_k_17 H locs hw_k_17 hH hz_k_17 hS hce_k_17 hv_k_17 hcl_k_17 => ?_) (fun r_k_17 u_k_17 H locs hw_k_17 hH hz_k_17 hS => ?_)
      · exact hw_k_17.elim
      · rcases hw_k_17 with ⟨rfl, hu_k_17⟩
        rw [hu_k_17] at hH
        refine lv_astore_n (lv' := [(3, .ref (ad 0 i)), (0, .ref x), (1, .int (nI i)), (2, .int o)]) hx hb dX5_assign_5 rfl hl (by decide) rfl (fun ls hl => ?_)
        refine lv_aload_n hx hb dX5_assign_6 rfl (lv_at hl 1 rfl) ?_
        refine lv_iload_n hx hb dX5_assign_7 rfl (lv_at hl 3 rfl) ?_
        refine z_xcallr (vx_runV (As := [.int o]) (rest := []) ⟨hx, hb, hml, hown, hts⟩ (c5_findOrder_f l hl9 D cy base w x o (ad 7 1) k_x p501 k_O n_O hno2) (cwV 1 hts gX5_assign_X5_findOrder rfl rfl rfl (by decide +kernel) ⟨Nat.le_of_ble_eq_true rfl, Nat.le_of_ble_eq_true rfl⟩) (z_preV hA hS hH (z_recv hA hH (zk0 k_x (by decide)) (zE_k6 k_x) (q := (RX5, TX5, 6)) rfl)) rfl rfl hl.1 rfl (lv_room (Nat.le_of_ble_eq_true rfl)) dX5_assign_8 ⟨Nat.le_of_ble_eq_true rfl, Nat.le_of_ble_eq_true rfl⟩) hS (fun E_k_18 ce_k_18 q9_k_18 u_k_18 H locs hw_k_18 hH hz_k_18 hS hce_k_18 hv_k_18 hcl_k_18 => ?_) (fun r_k_18 u_k_18 H locs hw_k_18 hH hz_k_18 hS => ?_)
        · obtain ⟨rfl, hu_k_18⟩ := hw_k_18
          rw [hu_k_18] at hH
          exact z_out htab hlocks hH hS hce_k_18 hv_k_18 hcl_k_18 (by
            have hc : (cd_assign B (nI i) o) = 1 := by first | (simp [cd_assign, hvP, hix, hvO]; done) | (simp_all [cd_assign]; done)
            exact ⟨Or.inl (⟨hc, rfl⟩), rfl⟩) (by decide) (by decide)
        · exact hw_k_18.elim
  · have hno := vP_no hinv hvP qA
    refine lv_aload_n hx hb dX5_assign_0 rfl (lv_at hl 0 rfl) ?_
    refine lv_iload_n hx hb dX5_assign_1 rfl (lv_at hl 1 rfl) ?_
    refine z_xcallr (vx_runV (As := [.int its]) (rest := []) ⟨hx, hb, hml, hown, hts⟩ (c5_findPerson_f l hl9 D cy base w x its (ad 7 0) k_x p500 k_A n_A hno) (cwV 1 hts gX5_assign_X5_findPerson rfl rfl rfl (by decide +kernel) ⟨Nat.le_of_ble_eq_true rfl, Nat.le_of_ble_eq_true rfl⟩) (z_preV hA hS hH (z_recv hA hH (zk0 k_x (by decide)) (zE_k6 k_x) (q := (RX5, TX5, 6)) rfl)) rfl rfl hl.1 rfl (lv_room (Nat.le_of_ble_eq_true rfl)) dX5_assign_2 ⟨Nat.le_of_ble_eq_true rfl, Nat.le_of_ble_eq_true rfl⟩) hS (fun E_k_19 ce_k_19 q9_k_19 u_k_19 H locs hw_k_19 hH hz_k_19 hS hce_k_19 hv_k_19 hcl_k_19 => ?_) (fun r_k_19 u_k_19 H locs hw_k_19 hH hz_k_19 hS => ?_)
    · obtain ⟨rfl, hu_k_19⟩ := hw_k_19
      rw [hu_k_19] at hH
      exact z_out htab hlocks hH hS hce_k_19 hv_k_19 hcl_k_19 (by
        have hc : (cd_assign B its o) = 1 := by first | (simp [cd_assign, hvP]; done) | (simp_all [cd_assign]; done)
        exact ⟨Or.inl (⟨hc, rfl⟩), rfl⟩) (by decide) (by decide)
    · exact hw_k_19.elim
set_option maxHeartbeats 4000000 in
set_option maxRecDepth 100000 in
theorem c5_addOrder (l : Launch) (hl9 : l.stackTraces = false) (D : va_G) (cy : Nat → ClassId) (base : Nat) (w : zW) (x : Nat) (ad : Nat → Nat → Nat) (B : mB) (s9 : Int32) (k9 : Int32) (w9 : Int32) (g9 : Int32) (hR : rAll w x ad B) (hinv : mInv B) (hinv2 : mInv2 B) : vx_Met l yX5_addOrder wsX5_addOrder ({ frames := 7, cells := 6, slots := 70, locals := 112 }) (zPc D cy base (zH D cy base) [.ref x, .int s9, .int k9, .int w9, .int g9] w) (zQi base (zH D cy base) (fun (r0 : Int32) (u0 : zW) => (cd_addOrder B s9 k9 w9 g9) = 0 ∧ r0 = (an_addOrder B) ∧ Rep u0 x (up_addOrder B s9 k9 w9 g9) ∧ cFr w u0)) (zXC base (zH D cy base) (fun (E : String) (u0 : zW) => thr3 (cd_addOrder B s9 k9 w9 g9) E ∧ u0 = w)) 6 70 (fun q => base ≤ q) := by
  refine vx_ofW (cc := cX5_addOrder) (maxL := 7) (ret := (some .int)) (by decide) rfl ?_
  intro p e s m args below meth c s₁ B9 hml htab hv
  obtain ⟨rfl, hA, hH⟩ := hv
  have hx := B9.exec
  have hb := B9.bytes
  have hr := B9.returns
  have hts := atoms_spec (ws := wsX5_addOrder) B9.pre
  have hown : s.vm.findClass RX5 = some m.cls := findClass_of_methodNamed B9.named
  have hlocks := B9.notSynchronized
  have hi1 : ∀ w ∈ wsX10, w ∈ wsX5_addOrder := by decide +kernel
  have hi5 : ∀ w ∈ wsX50, w ∈ wsX5_addOrder := by decide +kernel
  have hat_40 : ∀ w ∈ (vx_atS RX5 40 zIse zUp).filter goodWord, w ∈ wsX5_addOrder := fun _ h => by first | exact List.mem_cons_of_mem _ (List.mem_append_right _ h) | exact List.mem_cons_of_mem _ (List.mem_append_left _ (List.mem_append_right _ h)) | exact List.mem_cons_of_mem _ (List.mem_append_left _ (List.mem_append_left _ (List.mem_append_right _ h)))
  have hS : va_S (fun q : Nat => base ≤ q) s.heap s.heap [] := va_S.rf
  have hl := lv_entry ([.ref x, .int s9, .int k9, .int w9, .int g9]) (n := 7) (Nat.le_of_ble_eq_true rfl)
  rw [lg_entry_eq]
  generalize (lg_sl ([.ref x, .int s9, .int k9, .int w9, .int g9]) ++ List.replicate (7 - (lg_sl ([.ref x, .int s9, .int k9, .int w9, .int g9])).length) Slot.unset).toArray = ls at hl ⊢
  have hl : lv_has ls 7 [(0, .ref x), (1, .int s9), (2, .int k9), (3, .int w9), (4, .int g9)] := hl
  have hR9 := hR
  obtain ⟨⟨⟨k_x, i503, i504, i505⟩, ⟨p500, p501, p502⟩, k_A, n_A, k_O, n_O, k_T, n_T⟩, ⟨qA, qO, qT⟩, hTool, hPk, ⟨h200, h201, h202, h203, h204, h205, h206, h208, h209, h212, h213⟩, hPo, ⟨h301, h302, h303, hAc⟩, ⟨hOq, hOf⟩, hOr, hInj⟩ := hR9
  have hnO8 := hinv.2.1.1
  rcases vLies_const (v := k9) (n := 3) (by decide) (m := 2) (by decide) with ⟨k, rfl, hk3, hvK, hkx⟩ | hvK
  · obtain ⟨k_t, i400, i401⟩ := hTool k hk3
    refine lv_iload_n hx hb dX5_addOrder_0 rfl (lv_at hl 1 rfl) ?_
    refine z_xcallv (vx_runS (As := [.int s9]) (rest := []) ⟨hx, hb, hml, hown, hts⟩ (c5_checkSkill l hl9 D cy base w s9 ) (va_cwS 1 hts gX5_addOrder_X5_checkSkill rfl rfl rfl (by decide +kernel) ⟨Nat.le_of_ble_eq_true rfl, Nat.le_of_ble_eq_true rfl⟩) (z_preS hA hS hH) rfl rfl hl.1 rfl (lv_room (Nat.le_of_ble_eq_true rfl)) dX5_addOrder_1 ⟨Nat.le_of_ble_eq_true rfl, Nat.le_of_ble_eq_true rfl⟩) hS (fun E_k_1 ce_k_1 q9_k_1 u_k_1 H locs hw_k_1 hH hz_k_1 hS hce_k_1 hv_k_1 hcl_k_1 => ?_) (fun u_k_1 H locs hw_k_1 hH hz_k_1 hS => ?_)
    · obtain ⟨t_k_1_0, rfl, hu_k_1⟩ := hw_k_1
      rw [hu_k_1] at hH
      exact z_out htab hlocks hH hS hce_k_1 hv_k_1 hcl_k_1 (by
        have hc : (cd_addOrder B s9 (nI k) w9 g9) = 1 := by first | (simp [cd_addOrder, t_k_1_0, hvK, hkx]; done) | (simp_all [cd_addOrder]; done)
        exact ⟨Or.inl (⟨hc, rfl⟩), rfl⟩) (by decide) (by decide)
    · rcases hw_k_1 with ⟨h_k_1_0, hu_k_1⟩
      rw [hu_k_1] at hH
      refine lv_aload_n hx hb dX5_addOrder_4 rfl (lv_at hl 0 rfl) ?_
      refine lv_iload_n hx hb dX5_addOrder_5 rfl (lv_at hl 2 rfl) ?_
      refine z_xcallr (vx_runV (As := [.int (nI k)]) (rest := []) ⟨hx, hb, hml, hown, hts⟩ (c5_findTools_t l hl9 D cy base w x k (ad 7 2) (ad 6 k) k_x p502 k_T n_T (qT k hk3) hk3) (cwV 1 hts gX5_addOrder_X5_findTools rfl rfl rfl (by decide +kernel) ⟨Nat.le_of_ble_eq_true rfl, Nat.le_of_ble_eq_true rfl⟩) (z_preV hA hS hH (z_recv hA hH (zk0 k_x (by decide)) (zE_k6 k_x) (q := (RX5, TX5, 6)) rfl)) rfl rfl hl.1 rfl (lv_room (Nat.le_of_ble_eq_true rfl)) dX5_addOrder_6 ⟨Nat.le_of_ble_eq_true rfl, Nat.le_of_ble_eq_true rfl⟩) hS (fun E_k_2 ce_k_2 q9_k_2 u_k_2 H locs hw_k_2 hH hz_k_2 hS hce_k_2 hv_k_2 hcl_k_2 => ?_) (fun r_k_2 u_k_2 H locs hw_k_2 hH hz_k_2 hS => ?_)
      · exact hw_k_2.elim
      · rcases hw_k_2 with ⟨rfl, hu_k_2⟩
        rw [hu_k_2] at hH
        refine lv_astore (lv' := [(5, .ref (ad 6 k)), (0, .ref x), (1, .int s9), (2, .int (nI k)), (3, .int w9), (4, .int g9)]) hx hb dX5_addOrder_9 hl (by decide) rfl (fun ls hl => ?_)
        refine lv_iload_n hx hb dX5_addOrder_11 rfl (lv_at hl 4 rfl) ?_
        refine lv_iconst (v := 1) hx hb dX5_addOrder_12 (by decide) ?_
        refine lv_sipush (v := 500) hx hb dX5_addOrder_13 (by decide) ?_
        refine z_xcallv (vx_runS (As := [.int w9, .int 1, .int 500]) (rest := []) ⟨hx, hb, hml, hown, hts⟩ (c5_checkRange l hl9 D cy base w w9 1 500 ) (va_cwS 3 hts gX5_addOrder_X5_checkRange rfl rfl rfl (by decide +kernel) ⟨Nat.le_of_ble_eq_true rfl, Nat.le_of_ble_eq_true rfl⟩) (z_preS hA hS hH) rfl rfl hl.1 rfl (lv_room (Nat.le_of_ble_eq_true rfl)) dX5_addOrder_16 ⟨Nat.le_of_ble_eq_true rfl, Nat.le_of_ble_eq_true rfl⟩) hS (fun E_k_3 ce_k_3 q9_k_3 u_k_3 H locs hw_k_3 hH hz_k_3 hS hce_k_3 hv_k_3 hcl_k_3 => ?_) (fun u_k_3 H locs hw_k_3 hH hz_k_3 hS => ?_)
        · obtain ⟨t_k_3_0, rfl, hu_k_3⟩ := hw_k_3
          rw [hu_k_3] at hH
          exact z_out htab hlocks hH hS hce_k_3 hv_k_3 hcl_k_3 (by
            have hc : (cd_addOrder B s9 (nI k) w9 g9) = 2 := by first | (simp [cd_addOrder, h_k_1_0, t_k_3_0, hvK, hkx]; done) | (simp_all [cd_addOrder]; done)
            exact ⟨Or.inr (Or.inl (⟨hc, rfl⟩)), rfl⟩) (by decide) (by decide)
        · rcases hw_k_3 with ⟨h_k_3_0, hu_k_3⟩
          rw [hu_k_3] at hH
          refine lv_iload hx hb dX5_addOrder_19 (lv_at hl 5 rfl) ?_
          refine lv_iconst (v := 0) hx hb dX5_addOrder_21 (by decide) ?_
          refine lv_sipush (v := 1000) hx hb dX5_addOrder_22 (by decide) ?_
          refine z_xcallv (vx_runS (As := [.int g9, .int 0, .int 1000]) (rest := []) ⟨hx, hb, hml, hown, hts⟩ (c5_checkRange l hl9 D cy base w g9 0 1000 ) (va_cwS 3 hts gX5_addOrder_X5_checkRange rfl rfl rfl (by decide +kernel) ⟨Nat.le_of_ble_eq_true rfl, Nat.le_of_ble_eq_true rfl⟩) (z_preS hA hS hH) rfl rfl hl.1 rfl (lv_room (Nat.le_of_ble_eq_true rfl)) dX5_addOrder_25 ⟨Nat.le_of_ble_eq_true rfl, Nat.le_of_ble_eq_true rfl⟩) hS (fun E_k_4 ce_k_4 q9_k_4 u_k_4 H locs hw_k_4 hH hz_k_4 hS hce_k_4 hv_k_4 hcl_k_4 => ?_) (fun u_k_4 H locs hw_k_4 hH hz_k_4 hS => ?_)
          · obtain ⟨t_k_4_0, rfl, hu_k_4⟩ := hw_k_4
            rw [hu_k_4] at hH
            exact z_out htab hlocks hH hS hce_k_4 hv_k_4 hcl_k_4 (by
              have hc : (cd_addOrder B s9 (nI k) w9 g9) = 2 := by first | (simp [cd_addOrder, h_k_1_0, h_k_3_0, t_k_4_0, hvK, hkx]; done) | (simp_all [cd_addOrder]; done)
              exact ⟨Or.inr (Or.inl (⟨hc, rfl⟩)), rfl⟩) (by decide) (by decide)
          · rcases hw_k_4 with ⟨h_k_4_0, hu_k_4⟩
            rw [hu_k_4] at hH
            refine lv_aload_n hx hb dX5_addOrder_28 rfl (lv_at hl 1 rfl) ?_
            refine z_get (C := RX5) (T := TX5) (N := 6) (ci := 5) (index := 112) (v := .int (zI w 504 x)) hx hb hts hi5 hown hA hH (zk0 k_x (by decide)) (zE_k6 k_x) rfl 4 (by decide) (hts (.fieldLink RX5 112 "ParoleCards" "orderCount" "I") (by decide +kernel)) (fun _ h9 => h9) rfl dX5_addOrder_29 ?_
            refine lv_istore (lv' := [(6, .int (zI w 504 x)), (5, .ref (ad 6 k)), (0, .ref x), (1, .int s9), (2, .int (nI k)), (3, .int w9), (4, .int g9)]) hx hb dX5_addOrder_32 hl (by decide) rfl (fun ls hl => ?_)
            refine lv_iload hx hb dX5_addOrder_34 (lv_at hl 0 rfl) ?_
            refine lv_if_lt (tgt := 49) hx hb dX5_addOrder_36 (by decide) (fun c_5 => absurd c_5 (by rw [i504, hinv.2.1.2]; exact nI_pos (by omega))) (fun c_5 => ?_)
            refine lv_iload hx hb dX5_addOrder_39 (lv_at hl 0 rfl) ?_
            refine lv_aload_n hx hb dX5_addOrder_41 rfl (lv_at hl 2 rfl) ?_
            refine z_get (C := RX5) (T := TX5) (N := 6) (ci := 5) (index := 17) (v := .ref (ad 7 1)) hx hb hts hi5 hown hA hH (zk0 k_x (by decide)) (zE_k6 k_x) rfl 1 (by decide) (hts (.fieldLink RX5 17 "ParoleCards" "orders" "[LParoleCards$Order;") (by decide +kernel)) (fun _ h9 => h9) (congrArg (fun z => some (va_rf z)) p501) dX5_addOrder_42 ?_
            refine z_alen (v := 8) hx hb hA hH (zk0 k_O (by decide)) (zE_k11 k_O) 3 rfl (congrArg Int32.ofNat n_O) dX5_addOrder_45 ?_
            refine lv_icmp_lt (tgt := 59) hx hb dX5_addOrder_46 (by decide) (fun c_6 => ?_) (fun c_6 => ?_)
            · have hFull : ¬ B 22 0 = 8 := fun z => (nO_full hinv).mp z (by rw [← i504]; exact c_6)
              have h8 := mInv_ltO hinv hFull
              refine lv_aload_n hx hb dX5_addOrder_59 rfl (lv_at hl 2 rfl) ?_
              refine z_get (C := RX5) (T := TX5) (N := 6) (ci := 5) (index := 17) (v := .ref (ad 7 1)) hx hb hts hi5 hown hA hH (zk0 k_x (by decide)) (zE_k6 k_x) rfl 1 (by decide) (hts (.fieldLink RX5 17 "ParoleCards" "orders" "[LParoleCards$Order;") (by decide +kernel)) (fun _ h9 => h9) (congrArg (fun z => some (va_rf z)) p501) dX5_addOrder_60 ?_
              refine lv_iload hx hb dX5_addOrder_63 (lv_at hl 0 rfl) ?_
              refine z_new (C := RX1) (T := TX1) (N := 6) (ci := 1) (k := 2) (index := 15) hx hb hts hi1 tyX1 tyX1_ok hown (hts (.classLink RX5 15 RX1) (by decide +kernel)) (hts (.instantiable RX1 6) (by decide +kernel)) (hts (.initialized RX1) (by decide +kernel)) hA hH hS rfl zdf_1 (fun q => znew_1 q) (Nat.le_of_ble_eq_true rfl) (Nat.le_of_ble_eq_true rfl) dX5_addOrder_65 (fun q9 H hn_7 hH hS => ?_)
              have f_8 := ((zNew_old (k := 2) (n := 0) hn_7 (zk0 k_x (by decide))).2.1).trans k_x
              have f_9 := ((zNew_old (k := 2) (n := 0) hn_7 (zk0 k_x (by decide))).2.2.2.1 500).trans p500
              have f_10 := ((zNew_old (k := 2) (n := 0) hn_7 (zk0 k_A (by decide))).2.1).trans k_A
              have f_11 := ((zNew_old (k := 2) (n := 0) hn_7 (zk0 k_A (by decide))).2.2.2.2.1).trans n_A
              have f_12 := ((zNew_old (k := 2) (n := 0) hn_7 (zk0 k_x (by decide))).2.2.2.1 501).trans p501
              have f_13 := ((zNew_old (k := 2) (n := 0) hn_7 (zk0 k_O (by decide))).2.1).trans k_O
              have f_14 := ((zNew_old (k := 2) (n := 0) hn_7 (zk0 k_O (by decide))).2.2.2.2.1).trans n_O
              have f_15 := ((zNew_old (k := 2) (n := 0) hn_7 (zk0 k_x (by decide))).2.2.2.1 502).trans p502
              have f_16 := ((zNew_old (k := 2) (n := 0) hn_7 (zk0 k_T (by decide))).2.1).trans k_T
              have f_17 := ((zNew_old (k := 2) (n := 0) hn_7 (zk0 k_T (by decide))).2.2.2.2.1).trans n_T
              have f_18 := ((zNew_old (k := 2) (n := 0) hn_7 (zk0 k_t (by decide))).2.1).trans k_t
              have f_19 := (zNew_new (w := w) (q := q9) (k := 2) (n := 0)).1
              refine lv_dup hx hb dX5_addOrder_68 rfl ?_
              refine lv_iload hx hb dX5_addOrder_69 (lv_at hl 0 rfl) ?_
              refine lv_iload_n hx hb dX5_addOrder_71 rfl (lv_at hl 3 rfl) ?_
              refine lv_aload hx hb dX5_addOrder_72 (lv_at hl 1 rfl) ?_
              refine lv_iload_n hx hb dX5_addOrder_74 rfl (lv_at hl 5 rfl) ?_
              refine lv_iload hx hb dX5_addOrder_75 (lv_at hl 6 rfl) ?_
              refine z_callv (va_runI (As := [.int (zI w 504 x), .int s9, .ref (ad 6 k), .int w9, .int g9]) (rest := [.ref q9, .int (zI w 504 x), .ref (ad 7 1)]) ⟨hx, hb, hml, hown, hts⟩ (c1_init l D cy base (zNew w q9 2 0) q9 (zI w 504 x) s9 (ad 6 k) w9 g9 f_19) (cwI 5 hts gX5_addOrder_X1_init rfl rfl rfl (hts (.initialized RX1) (by decide +kernel)) (hts (.methodLink RX5 117 yX1_init) (by decide +kernel)) (hts (.instanceMethod yX1_init) (by decide +kernel)) rfl (by decide +kernel) ⟨Nat.le_of_ble_eq_true rfl, Nat.le_of_ble_eq_true rfl⟩) (z_preS hA hS hH) rfl rfl hl.1 rfl (lv_room (Nat.le_of_ble_eq_true rfl)) dX5_addOrder_77 ⟨Nat.le_of_ble_eq_true rfl, Nat.le_of_ble_eq_true rfl⟩) hS (fun u_k_20 H locs hw_k_20 hH hz_k_20 hS => ?_)
              have hu_k_20 := hw_k_20
              rw [hu_k_20] at hH
              try rw [show zI (zNew w q9 2 0) 504 x = (zI w 504 x) from ((zNew_old (w := w) (q := q9) (k := 2) (n := 0) hn_7 (zk0 k_x (by decide))).2.2.1 504)] at hH
              refine z_aast (r := (RX1, TX1, 6)) (ci := 1) hx hb hA hH hS (zk0 f_13 (by decide)) (zEn (zE_k11 f_13) f_14) 3 rfl (zk0 f_19 (by decide)) (zE_k2 f_19) rfl (nO B) (i504.trans hinv.2.1.2) h8 (by decide) (w' := zsQ (zsI (zsI (zsP (zsI (zsI (zNew w q9 2 0) 100 q9 (zI w 504 x)) 101 q9 s9) 102 q9 (some (ad 6 k))) 104 q9 w9) 103 q9 g9) (ad 7 1) (nO B) (some q9)) (zEn (zst_11 (w := (zsI (zsI (zsP (zsI (zsI (zNew w q9 2 0) 100 q9 (zI w 504 x)) 101 q9 s9) 102 q9 (some (ad 6 k))) 104 q9 w9) 103 q9 g9)) f_13 _ _) f_14) (zsQ_oth (zsI (zsI (zsP (zsI (zsI (zNew w q9 2 0) 100 q9 (zI w 504 x)) 101 q9 s9) 102 q9 (some (ad 6 k))) 104 q9 w9) 103 q9 g9) (ad 7 1) (nO B) _) (fun _ => rfl) dX5_addOrder_80 (fun H locs hH hS => ?_)
              refine lv_aload_n hx hb dX5_addOrder_81 rfl (lv_at hl 2 rfl) ?_
              refine lv_dup hx hb dX5_addOrder_82 rfl ?_
              refine z_get (C := RX5) (T := TX5) (N := 6) (ci := 5) (index := 112) (v := .int (zI w 504 x)) hx hb hts hi5 hown hA hH (zk0 f_8 (by decide)) (zE_k6 f_8) rfl 4 (by decide) (hts (.fieldLink RX5 112 "ParoleCards" "orderCount" "I") (by decide +kernel)) (fun _ h9 => h9) (congrArg (fun z => some (Value.int z)) ((zNew_old (w := w) (q := q9) (k := 2) (n := 0) hn_7 (zk0 k_x (by decide))).2.2.1 504)) dX5_addOrder_83 ?_
              refine lv_iconst (v := 1) hx hb dX5_addOrder_86 (by decide) ?_
              refine lv_iadd hx hb dX5_addOrder_87 ?_
              refine z_put (C := RX5) (T := TX5) (N := 6) (ci := 5) (index := 112) (v := .int ((zI w 504 x) + 1)) (ty := .int) hx hb hts hi5 tyX5 tyX5_ok nmX5 hown hA hH hS (zk0 f_8 (by decide)) (zE_k6 f_8) rfl 4 (by decide) (hts (.fieldLink RX5 112 "ParoleCards" "orderCount" "I") (by decide +kernel)) (fun _ h9 => h9) rfl (by decide +kernel) rfl rfl (Nat.le_of_ble_eq_true rfl) (w' := zsI (zsQ (zsI (zsI (zsP (zsI (zsI (zNew w q9 2 0) 100 q9 (zI w 504 x)) 101 q9 s9) 102 q9 (some (ad 6 k))) 104 q9 w9) 103 q9 g9) (ad 7 1) (nO B) (some q9)) 504 x ((zI w 504 x) + 1)) (zs_504 (w := (zsQ (zsI (zsI (zsP (zsI (zsI (zNew w q9 2 0) 100 q9 (zI w 504 x)) 101 q9 s9) 102 q9 (some (ad 6 k))) 104 q9 w9) 103 q9 g9) (ad 7 1) (nO B) (some q9))) f_8 _) (zsI_oth (zsQ (zsI (zsI (zsP (zsI (zsI (zNew w q9 2 0) 100 q9 (zI w 504 x)) 101 q9 s9) 102 q9 (some (ad 6 k))) 104 q9 w9) 103 q9 g9) (ad 7 1) (nO B) (some q9)) 504 x _) (fun _ => rfl) dX5_addOrder_88 (fun H locs hH hS => ?_)
              refine lv_iload hx hb dX5_addOrder_91 (lv_at hl 0 rfl) ?_
              refine vx_ret ?_
              exact z_iret hx hb hr hlocks hH hS (by
                have hc : (cd_addOrder B s9 (nI k) w9 g9) = 0 := by first | (simp [cd_addOrder, h_k_1_0, h_k_3_0, h_k_4_0, c_5, Int32.not_lt.mp c_5, c_6, Int32.not_le.mpr c_6, hvK, hkx, hFull]; done) | (simp_all [cd_addOrder]; done)
                refine ⟨hc, ?_, ?_⟩
                · show _ = B 22 0 + 1 - 1
                  rw [i32_11]; exact i504
                · exact rw_addOrder hR hinv h8 hk3 hkx hn_7 (i504.trans hinv.2.1.2)) (by decide) (by decide) dX5_addOrder_93
            · have hFull : B 22 0 = 8 := (nO_full hinv).mpr (by rw [← i504]; exact c_6)
              exact z_throwS (cls := zIse) (text := "there is no room for another order") (is := 115) (ic := 40) (ik := 36) hx hb hl9 hown (by decide +kernel) (hts (.classLink RX5 36 "java/lang/IllegalStateException") (by decide +kernel)) (hts (.initialized "java/lang/IllegalStateException") (by decide +kernel)) hA (by decide +kernel) (fun w9 h9 => hts w9 (hat_40 w9 h9)) (by decide +kernel) (by decide +kernel) hH hS (hl.1.trans hml.symm) dX5_addOrder_49 dX5_addOrder_52 dX5_addOrder_53 dX5_addOrder_55 dX5_addOrder_58 htab (Nat.le_of_ble_eq_true rfl) (Nat.le_of_ble_eq_true rfl) (Nat.le_of_ble_eq_true rfl) (Nat.le_of_ble_eq_true rfl) hlocks (by
                have hc : (cd_addOrder B s9 (nI k) w9 g9) = 3 := by first | (simp [cd_addOrder, h_k_1_0, h_k_3_0, h_k_4_0, c_5, Int32.not_lt.mp c_5, c_6, Int32.not_lt.mp c_6, hvK, hkx, hFull]; done) | (simp_all [cd_addOrder]; done)
                exact ⟨Or.inr (Or.inr (⟨hc, rfl⟩)), rfl⟩) (by decide) (by decide)
  · have hno3 := vK_no (w := w) (A := ad 7 2) hvK
    refine lv_iload_n hx hb dX5_addOrder_0 rfl (lv_at hl 1 rfl) ?_
    refine z_xcallv (vx_runS (As := [.int s9]) (rest := []) ⟨hx, hb, hml, hown, hts⟩ (c5_checkSkill l hl9 D cy base w s9 ) (va_cwS 1 hts gX5_addOrder_X5_checkSkill rfl rfl rfl (by decide +kernel) ⟨Nat.le_of_ble_eq_true rfl, Nat.le_of_ble_eq_true rfl⟩) (z_preS hA hS hH) rfl rfl hl.1 rfl (lv_room (Nat.le_of_ble_eq_true rfl)) dX5_addOrder_1 ⟨Nat.le_of_ble_eq_true rfl, Nat.le_of_ble_eq_true rfl⟩) hS (fun E_k_21 ce_k_21 q9_k_21 u_k_21 H locs hw_k_21 hH hz_k_21 hS hce_k_21 hv_k_21 hcl_k_21 => ?_) (fun u_k_21 H locs hw_k_21 hH hz_k_21 hS => ?_)
    · obtain ⟨t_k_21_0, rfl, hu_k_21⟩ := hw_k_21
      rw [hu_k_21] at hH
      exact z_out htab hlocks hH hS hce_k_21 hv_k_21 hcl_k_21 (by
        have hc : (cd_addOrder B s9 k9 w9 g9) = 1 := by first | (simp [cd_addOrder, t_k_21_0, hvK]; done) | (simp_all [cd_addOrder]; done)
        exact ⟨Or.inl (⟨hc, rfl⟩), rfl⟩) (by decide) (by decide)
    · rcases hw_k_21 with ⟨h_k_21_0, hu_k_21⟩
      rw [hu_k_21] at hH
      refine lv_aload_n hx hb dX5_addOrder_4 rfl (lv_at hl 0 rfl) ?_
      refine lv_iload_n hx hb dX5_addOrder_5 rfl (lv_at hl 2 rfl) ?_
      refine z_xcallr (vx_runV (As := [.int k9]) (rest := []) ⟨hx, hb, hml, hown, hts⟩ (c5_findTools_f l hl9 D cy base w x k9 (ad 7 2) k_x p502 k_T n_T hno3) (cwV 1 hts gX5_addOrder_X5_findTools rfl rfl rfl (by decide +kernel) ⟨Nat.le_of_ble_eq_true rfl, Nat.le_of_ble_eq_true rfl⟩) (z_preV hA hS hH (z_recv hA hH (zk0 k_x (by decide)) (zE_k6 k_x) (q := (RX5, TX5, 6)) rfl)) rfl rfl hl.1 rfl (lv_room (Nat.le_of_ble_eq_true rfl)) dX5_addOrder_6 ⟨Nat.le_of_ble_eq_true rfl, Nat.le_of_ble_eq_true rfl⟩) hS (fun E_k_22 ce_k_22 q9_k_22 u_k_22 H locs hw_k_22 hH hz_k_22 hS hce_k_22 hv_k_22 hcl_k_22 => ?_) (fun r_k_22 u_k_22 H locs hw_k_22 hH hz_k_22 hS => ?_)
      · obtain ⟨rfl, hu_k_22⟩ := hw_k_22
        rw [hu_k_22] at hH
        exact z_out htab hlocks hH hS hce_k_22 hv_k_22 hcl_k_22 (by
          have hc : (cd_addOrder B s9 k9 w9 g9) = 1 := by first | (simp [cd_addOrder, h_k_21_0, hvK]; done) | (simp_all [cd_addOrder]; done)
          exact ⟨Or.inl (⟨hc, rfl⟩), rfl⟩) (by decide) (by decide)
      · exact hw_k_22.elim
set_option maxHeartbeats 4000000 in
set_option maxRecDepth 100000 in
theorem c5_admit (l : Launch) (hl9 : l.stackTraces = false) (D : va_G) (cy : Nat → ClassId) (base : Nat) (w : zW) (x : Nat) (ad : Nat → Nat → Nat) (B : mB) (d : Int32) (k : Int32) (hR : rAll w x ad B) (hinv : mInv B) (hinv2 : mInv2 B) (hinv3 : mInv3 B) : vx_Met l yX5_admit wsX5_admit ({ frames := 7, cells := 8, slots := 100, locals := 112 }) (zPc D cy base (zH D cy base) [.ref x, .int d, .int k] w) (zQi base (zH D cy base) (fun (r0 : Int32) (u0 : zW) => (cd_admit B d k) = 0 ∧ r0 = (an_admit B) ∧ Rep u0 x (up_admit B d k) ∧ cFr w u0)) (zXC base (zH D cy base) (fun (E : String) (u0 : zW) => thrA (cd_admit B d k) E ∧ u0 = w)) 8 100 (fun q => base ≤ q) := by
  refine vx_ofW (cc := cX5_admit) (maxL := 4) (ret := (some .int)) (by decide) rfl ?_
  intro p e s m args below meth c s₁ B9 hml htab hv
  obtain ⟨rfl, hA, hH⟩ := hv
  have hx := B9.exec
  have hb := B9.bytes
  have hr := B9.returns
  have hts := atoms_spec (ws := wsX5_admit) B9.pre
  have hown : s.vm.findClass RX5 = some m.cls := findClass_of_methodNamed B9.named
  have hlocks := B9.notSynchronized
  have hi2 : ∀ w ∈ wsX20, w ∈ wsX5_admit := by decide +kernel
  have hi5 : ∀ w ∈ wsX50, w ∈ wsX5_admit := by decide +kernel
  have hat_40 : ∀ w ∈ (vx_atS RX5 40 zIse zUp).filter goodWord, w ∈ wsX5_admit := fun _ h => by first | exact List.mem_cons_of_mem _ (List.mem_append_right _ h) | exact List.mem_cons_of_mem _ (List.mem_append_left _ (List.mem_append_right _ h)) | exact List.mem_cons_of_mem _ (List.mem_append_left _ (List.mem_append_left _ (List.mem_append_right _ h)))
  have hS : va_S (fun q : Nat => base ≤ q) s.heap s.heap [] := va_S.rf
  have hl := lv_entry ([.ref x, .int d, .int k]) (n := 4) (Nat.le_of_ble_eq_true rfl)
  rw [lg_entry_eq]
  generalize (lg_sl ([.ref x, .int d, .int k]) ++ List.replicate (4 - (lg_sl ([.ref x, .int d, .int k])).length) Slot.unset).toArray = ls at hl ⊢
  have hl : lv_has ls 4 [(0, .ref x), (1, .int d), (2, .int k)] := hl
  have hR9 := hR
  obtain ⟨⟨⟨k_x, i503, i504, i505⟩, ⟨p500, p501, p502⟩, k_A, n_A, k_O, n_O, k_T, n_T⟩, ⟨qA, qO, qT⟩, hTool, hPk, ⟨h200, h201, h202, h203, h204, h205, h206, h208, h209, h212, h213⟩, hPo, ⟨h301, h302, h303, hAc⟩, ⟨hOq, hOf⟩, hOr, hInj⟩ := hR9
  have hnP10 := hinv.1.1
  refine lv_iload_n hx hb dX5_admit_0 rfl (lv_at hl 1 rfl) ?_
  refine lv_iconst (v := 1) hx hb dX5_admit_1 (by decide) ?_
  refine lv_sipush (v := 2000) hx hb dX5_admit_2 (by decide) ?_
  refine z_xcallv (vx_runS (As := [.int d, .int 1, .int 2000]) (rest := []) ⟨hx, hb, hml, hown, hts⟩ (c5_checkRange l hl9 D cy base w d 1 2000 ) (va_cwS 3 hts gX5_admit_X5_checkRange rfl rfl rfl (by decide +kernel) ⟨Nat.le_of_ble_eq_true rfl, Nat.le_of_ble_eq_true rfl⟩) (z_preS hA hS hH) rfl rfl hl.1 rfl (lv_room (Nat.le_of_ble_eq_true rfl)) dX5_admit_5 ⟨Nat.le_of_ble_eq_true rfl, Nat.le_of_ble_eq_true rfl⟩) hS (fun E_k_1 ce_k_1 q9_k_1 u_k_1 H locs hw_k_1 hH hz_k_1 hS hce_k_1 hv_k_1 hcl_k_1 => ?_) (fun u_k_1 H locs hw_k_1 hH hz_k_1 hS => ?_)
  · obtain ⟨t_k_1_0, rfl, hu_k_1⟩ := hw_k_1
    rw [hu_k_1] at hH
    exact z_out htab hlocks hH hS hce_k_1 hv_k_1 hcl_k_1 (by
      have hc : (cd_admit B d k) = 1 := by first | (simp [cd_admit, t_k_1_0]; done) | (simp_all [cd_admit]; done)
      exact ⟨Or.inl (⟨hc, rfl⟩), rfl⟩) (by decide) (by decide)
  · rcases hw_k_1 with ⟨h_k_1_0, hu_k_1⟩
    rw [hu_k_1] at hH
    refine lv_iload_n hx hb dX5_admit_8 rfl (lv_at hl 2 rfl) ?_
    refine lv_iconst (v := 0) hx hb dX5_admit_9 (by decide) ?_
    refine lv_bipush (v := 15) hx hb dX5_admit_10 (by decide) ?_
    refine z_xcallv (vx_runS (As := [.int k, .int 0, .int 15]) (rest := []) ⟨hx, hb, hml, hown, hts⟩ (c5_checkRange l hl9 D cy base w k 0 15 ) (va_cwS 3 hts gX5_admit_X5_checkRange rfl rfl rfl (by decide +kernel) ⟨Nat.le_of_ble_eq_true rfl, Nat.le_of_ble_eq_true rfl⟩) (z_preS hA hS hH) rfl rfl hl.1 rfl (lv_room (Nat.le_of_ble_eq_true rfl)) dX5_admit_12 ⟨Nat.le_of_ble_eq_true rfl, Nat.le_of_ble_eq_true rfl⟩) hS (fun E_k_2 ce_k_2 q9_k_2 u_k_2 H locs hw_k_2 hH hz_k_2 hS hce_k_2 hv_k_2 hcl_k_2 => ?_) (fun u_k_2 H locs hw_k_2 hH hz_k_2 hS => ?_)
    · obtain ⟨t_k_2_0, rfl, hu_k_2⟩ := hw_k_2
      rw [hu_k_2] at hH
      exact z_out htab hlocks hH hS hce_k_2 hv_k_2 hcl_k_2 (by
        have hc : (cd_admit B d k) = 1 := by first | (simp [cd_admit, h_k_1_0, t_k_2_0]; done) | (simp_all [cd_admit]; done)
        exact ⟨Or.inl (⟨hc, rfl⟩), rfl⟩) (by decide) (by decide)
    · rcases hw_k_2 with ⟨h_k_2_0, hu_k_2⟩
      rw [hu_k_2] at hH
      refine lv_aload_n hx hb dX5_admit_15 rfl (lv_at hl 0 rfl) ?_
      refine z_get (C := RX5) (T := TX5) (N := 6) (ci := 5) (index := 32) (v := .int (zI w 503 x)) hx hb hts hi5 hown hA hH (zk0 k_x (by decide)) (zE_k6 k_x) rfl 3 (by decide) (hts (.fieldLink RX5 32 "ParoleCards" "personCount" "I") (by decide +kernel)) (fun _ h9 => h9) rfl dX5_admit_16 ?_
      refine lv_istore_n (lv' := [(3, .int (zI w 503 x)), (0, .ref x), (1, .int d), (2, .int k)]) hx hb dX5_admit_19 rfl hl (by decide) rfl (fun ls hl => ?_)
      refine lv_iload_n hx hb dX5_admit_20 rfl (lv_at hl 0 rfl) ?_
      refine lv_if_lt (tgt := 33) hx hb dX5_admit_21 (by decide) (fun c_3 => absurd c_3 (by rw [i503, hinv.1.2]; exact nI_pos (by omega))) (fun c_3 => ?_)
      refine lv_iload_n hx hb dX5_admit_24 rfl (lv_at hl 0 rfl) ?_
      refine lv_aload_n hx hb dX5_admit_25 rfl (lv_at hl 1 rfl) ?_
      refine z_get (C := RX5) (T := TX5) (N := 6) (ci := 5) (index := 11) (v := .ref (ad 7 0)) hx hb hts hi5 hown hA hH (zk0 k_x (by decide)) (zE_k6 k_x) rfl 0 (by decide) (hts (.fieldLink RX5 11 "ParoleCards" "people" "[LParoleCards$Person;") (by decide +kernel)) (fun _ h9 => h9) (congrArg (fun z => some (va_rf z)) p500) dX5_admit_26 ?_
      refine z_alen (v := 10) hx hb hA hH (zk0 k_A (by decide)) (zE_k12 k_A) 4 rfl (congrArg Int32.ofNat n_A) dX5_admit_29 ?_
      refine lv_icmp_lt (tgt := 43) hx hb dX5_admit_30 (by decide) (fun c_4 => ?_) (fun c_4 => ?_)
      · have hFull : ¬ B 1 0 = 10 := fun z => (nP_full hinv).mp z (by rw [← i503]; exact c_4)
        have h10 := mInv_lt hinv hFull
        refine lv_aload_n hx hb dX5_admit_43 rfl (lv_at hl 1 rfl) ?_
        refine z_get (C := RX5) (T := TX5) (N := 6) (ci := 5) (index := 11) (v := .ref (ad 7 0)) hx hb hts hi5 hown hA hH (zk0 k_x (by decide)) (zE_k6 k_x) rfl 0 (by decide) (hts (.fieldLink RX5 11 "ParoleCards" "people" "[LParoleCards$Person;") (by decide +kernel)) (fun _ h9 => h9) (congrArg (fun z => some (va_rf z)) p500) dX5_admit_44 ?_
        refine lv_iload_n hx hb dX5_admit_47 rfl (lv_at hl 0 rfl) ?_
        refine z_new (C := RX2) (T := TX2) (N := 14) (ci := 2) (k := 3) (index := 9) hx hb hts hi2 tyX2 tyX2_ok hown (hts (.classLink RX5 9 RX2) (by decide +kernel)) (hts (.instantiable RX2 14) (by decide +kernel)) (hts (.initialized RX2) (by decide +kernel)) hA hH hS rfl zdf_2 (fun q => znew_2 q) (Nat.le_of_ble_eq_true rfl) (Nat.le_of_ble_eq_true rfl) dX5_admit_48 (fun p9 H hn_5 hH hS => ?_)
        have f_6 := ((zNew_old (k := 3) (n := 0) hn_5 (zk0 k_x (by decide))).2.1).trans k_x
        have f_7 := ((zNew_old (k := 3) (n := 0) hn_5 (zk0 k_x (by decide))).2.2.2.1 500).trans p500
        have f_8 := ((zNew_old (k := 3) (n := 0) hn_5 (zk0 k_A (by decide))).2.1).trans k_A
        have f_9 := ((zNew_old (k := 3) (n := 0) hn_5 (zk0 k_A (by decide))).2.2.2.2.1).trans n_A
        have f_10 := ((zNew_old (k := 3) (n := 0) hn_5 (zk0 k_x (by decide))).2.2.2.1 501).trans p501
        have f_11 := ((zNew_old (k := 3) (n := 0) hn_5 (zk0 k_O (by decide))).2.1).trans k_O
        have f_12 := ((zNew_old (k := 3) (n := 0) hn_5 (zk0 k_O (by decide))).2.2.2.2.1).trans n_O
        have f_13 := ((zNew_old (k := 3) (n := 0) hn_5 (zk0 k_x (by decide))).2.2.2.1 502).trans p502
        have f_14 := ((zNew_old (k := 3) (n := 0) hn_5 (zk0 k_T (by decide))).2.1).trans k_T
        have f_15 := ((zNew_old (k := 3) (n := 0) hn_5 (zk0 k_T (by decide))).2.2.2.2.1).trans n_T
        have f_16 := (zNew_new (w := w) (q := p9) (k := 3) (n := 0)).1
        refine lv_dup hx hb dX5_admit_51 rfl ?_
        refine lv_aload_n hx hb dX5_admit_52 rfl (lv_at hl 1 rfl) ?_
        refine z_get (C := RX5) (T := TX5) (N := 6) (ci := 5) (index := 43) (v := .int (zI w 505 x)) hx hb hts hi5 hown hA hH (zk0 f_6 (by decide)) (zE_k6 f_6) rfl 5 (by decide) (hts (.fieldLink RX5 43 "ParoleCards" "today" "I") (by decide +kernel)) (fun _ h9 => h9) (congrArg (fun z => some (Value.int z)) ((zNew_old (w := w) (q := p9) (k := 3) (n := 0) hn_5 (zk0 k_x (by decide))).2.2.1 505)) dX5_admit_53 ?_
        refine lv_iload_n hx hb dX5_admit_56 rfl (lv_at hl 2 rfl) ?_
        refine lv_iload_n hx hb dX5_admit_57 rfl (lv_at hl 3 rfl) ?_
        refine z_callv (va_runI (As := [.int (zI w 505 x), .int d, .int k]) (rest := [.ref p9, .int (zI w 503 x), .ref (ad 7 0)]) ⟨hx, hb, hml, hown, hts⟩ (c2_init l D cy base (zNew w p9 3 0) p9 (zI w 505 x) d k f_16) (cwI 3 hts gX5_admit_X2_init rfl rfl rfl (hts (.initialized RX2) (by decide +kernel)) (hts (.methodLink RX5 46 yX2_init) (by decide +kernel)) (hts (.instanceMethod yX2_init) (by decide +kernel)) rfl (by decide +kernel) ⟨Nat.le_of_ble_eq_true rfl, Nat.le_of_ble_eq_true rfl⟩) (z_preS hA hS hH) rfl rfl hl.1 rfl (lv_room (Nat.le_of_ble_eq_true rfl)) dX5_admit_58 ⟨Nat.le_of_ble_eq_true rfl, Nat.le_of_ble_eq_true rfl⟩) hS (fun u_k_17 H locs hw_k_17 hH hz_k_17 hS => ?_)
        obtain ⟨⟨fa, q, r, hf1, hf2, hf3, hu_k_17⟩, -⟩ := hw_k_17
        rw [hu_k_17] at hH
        have hH : zH D cy base (aW w p9 fa q r (zI w 505 x) d k) H := hH
        obtain ⟨old, f0, q0, r0⟩ := aW_old (t0 := (zI w 505 x)) (tm := d) (sk := k) hn_5 hf1 hf2 hf3
        obtain ⟨nK, nI0, nI1⟩ := aW_new (t0 := (zI w 505 x)) (tm := d) (sk := k) hf1 hf2 hf3
        have ex := old x (zk0 k_x (by decide))
        have eA := old (ad 7 0) (zk0 k_A (by decide))
        refine z_aast (r := (RX2, TX2, 14)) (ci := 2) hx hb hA hH hS (zk0 (eA.1.trans k_A) (by decide)) (zEn (zE_k12 (eA.1.trans k_A)) (eA.2.2.2.1.trans n_A)) 4 rfl (zk0 nK.1 (by decide)) (zE_k3 nK.1) rfl (nP B) (i503.trans hinv.1.2) h10 (by decide) (w' := zsQ (aW w p9 fa q r (zI w 505 x) d k) (ad 7 0) (nP B) (some p9)) (zEn (zst_12 (w := (aW w p9 fa q r (zI w 505 x) d k)) (eA.1.trans k_A) _ _) (eA.2.2.2.1.trans n_A)) (zsQ_oth (aW w p9 fa q r (zI w 505 x) d k) (ad 7 0) (nP B) _) (fun _ => rfl) dX5_admit_61 (fun H locs hH hS => ?_)
        refine lv_aload_n hx hb dX5_admit_62 rfl (lv_at hl 1 rfl) ?_
        refine lv_dup hx hb dX5_admit_63 rfl ?_
        refine z_get (C := RX5) (T := TX5) (N := 6) (ci := 5) (index := 32) (v := .int (zI (aW w p9 fa q r (zI w 505 x) d k) 503 x)) hx hb hts hi5 hown hA hH (zk0 (ex.1.trans k_x) (by decide)) (zE_k6 (ex.1.trans k_x)) rfl 3 (by decide) (hts (.fieldLink RX5 32 "ParoleCards" "personCount" "I") (by decide +kernel)) (fun _ h9 => h9) rfl dX5_admit_64 ?_
        refine lv_iconst (v := 1) hx hb dX5_admit_67 (by decide) ?_
        refine lv_iadd hx hb dX5_admit_68 ?_
        refine z_put (C := RX5) (T := TX5) (N := 6) (ci := 5) (index := 32) (v := .int ((zI (aW w p9 fa q r (zI w 505 x) d k) 503 x) + 1)) (ty := .int) hx hb hts hi5 tyX5 tyX5_ok nmX5 hown hA hH hS (zk0 (ex.1.trans k_x) (by decide)) (zE_k6 (ex.1.trans k_x)) rfl 3 (by decide) (hts (.fieldLink RX5 32 "ParoleCards" "personCount" "I") (by decide +kernel)) (fun _ h9 => h9) rfl (by decide +kernel) rfl rfl (Nat.le_of_ble_eq_true rfl) (w' := zsI (zsQ (aW w p9 fa q r (zI w 505 x) d k) (ad 7 0) (nP B) (some p9)) 503 x ((zI (aW w p9 fa q r (zI w 505 x) d k) 503 x) + 1)) (zs_503 (w := (zsQ (aW w p9 fa q r (zI w 505 x) d k) (ad 7 0) (nP B) (some p9))) (ex.1.trans k_x) _) (zsI_oth (zsQ (aW w p9 fa q r (zI w 505 x) d k) (ad 7 0) (nP B) (some p9)) 503 x _) (fun _ => rfl) dX5_admit_69 (fun H locs hH hS => ?_)
        refine lv_iload_n hx hb dX5_admit_72 rfl (lv_at hl 0 rfl) ?_
        refine vx_ret ?_
        exact z_iret hx hb hr hlocks hH hS (by
          have hc : (cd_admit B d k) = 0 := by first | (simp [cd_admit, h_k_1_0, h_k_2_0, c_3, Int32.not_lt.mp c_3, c_4, Int32.not_le.mpr c_4, hFull]; done) | (simp_all [cd_admit]; done)
          refine ⟨hc, ?_, ?_⟩
          · show _ = B 1 0 + 1 - 1
            rw [i32_11]; exact i503
          · exact rw_admit hR hinv hinv3 h10 hn_5 hf1 hf2 hf3 i505) (by decide) (by decide) dX5_admit_73
      · have hFull : B 1 0 = 10 := (nP_full hinv).mpr (by rw [← i503]; exact c_4)
        exact z_throwS (cls := zIse) (text := "the house is full") (is := 38) (ic := 40) (ik := 36) hx hb hl9 hown (by decide +kernel) (hts (.classLink RX5 36 "java/lang/IllegalStateException") (by decide +kernel)) (hts (.initialized "java/lang/IllegalStateException") (by decide +kernel)) hA (by decide +kernel) (fun w9 h9 => hts w9 (hat_40 w9 h9)) (by decide +kernel) (by decide +kernel) hH hS (hl.1.trans hml.symm) dX5_admit_33 dX5_admit_36 dX5_admit_37 dX5_admit_39 dX5_admit_42 htab (Nat.le_of_ble_eq_true rfl) (Nat.le_of_ble_eq_true rfl) (Nat.le_of_ble_eq_true rfl) (Nat.le_of_ble_eq_true rfl) hlocks (by
          have hc : (cd_admit B d k) = 2 := by first | (simp [cd_admit, h_k_1_0, h_k_2_0, c_3, Int32.not_lt.mp c_3, c_4, Int32.not_lt.mp c_4, hFull]; done) | (simp_all [cd_admit]; done)
          exact ⟨Or.inr (⟨hc, rfl⟩), rfl⟩) (by decide) (by decide)
set_option maxHeartbeats 4000000 in
set_option maxRecDepth 100000 in
theorem c5_course (l : Launch) (hl9 : l.stackTraces = false) (D : va_G) (cy : Nat → ClassId) (base : Nat) (w : zW) (x : Nat) (ad : Nat → Nat → Nat) (B : mB) (its : Int32) (sk : Int32) (days : Int32) (hR : rAll w x ad B) (hinv : mInv B) (hinv2 : mInv2 B) : vx_Met l yX5_course wsX5_course ({ frames := 7, cells := 6, slots := 70, locals := 112 }) (zPc D cy base (zH D cy base) [.ref x, .int its, .int sk, .int days] w) (zQi base (zH D cy base) (fun (r0 : Int32) (u0 : zW) => (cd_course B its sk days) = 0 ∧ r0 = (an_course B its sk days) ∧ Rep u0 x (up_course B its sk days) ∧ cFr w u0)) (zXC base (zH D cy base) (fun (E : String) (u0 : zW) => thr3 (cd_course B its sk days) E ∧ u0 = w)) 6 70 (fun q => base ≤ q) := by
  refine vx_ofW (cc := cX5_course) (maxL := 5) (ret := (some .int)) (by decide) rfl ?_
  intro p e s m args below meth c s₁ B9 hml htab hv
  obtain ⟨rfl, hA, hH⟩ := hv
  have hx := B9.exec
  have hb := B9.bytes
  have hr := B9.returns
  have hts := atoms_spec (ws := wsX5_course) B9.pre
  have hown : s.vm.findClass RX5 = some m.cls := findClass_of_methodNamed B9.named
  have hlocks := B9.notSynchronized
  have hS : va_S (fun q : Nat => base ≤ q) s.heap s.heap [] := va_S.rf
  have hl := lv_entry ([.ref x, .int its, .int sk, .int days]) (n := 5) (Nat.le_of_ble_eq_true rfl)
  rw [lg_entry_eq]
  generalize (lg_sl ([.ref x, .int its, .int sk, .int days]) ++ List.replicate (5 - (lg_sl ([.ref x, .int its, .int sk, .int days])).length) Slot.unset).toArray = ls at hl ⊢
  have hl : lv_has ls 5 [(0, .ref x), (1, .int its), (2, .int sk), (3, .int days)] := hl
  have hR9 := hR
  obtain ⟨⟨⟨k_x, i503, i504, i505⟩, ⟨p500, p501, p502⟩, k_A, n_A, k_O, n_O, k_T, n_T⟩, ⟨qA, qO, qT⟩, hTool, hPk, ⟨h200, h201, h202, h203, h204, h205, h206, h208, h209, h212, h213⟩, hPo, ⟨h301, h302, h303, hAc⟩, ⟨hOq, hOf⟩, hOr, hInj⟩ := hR9
  rcases vP_split hinv its with ⟨i, rfl, hi, hi10, hvP, hix⟩ | hvP
  · have q_i : zQ w (ad 7 0) i = some (ad 0 i) := by rw [qA i hi10, if_pos hi]
    obtain ⟨k_p, p207, p211, k_f, n_f, k_q, p300, k_r, n_r⟩ := hPk i hi
    refine lv_aload_n hx hb dX5_course_0 rfl (lv_at hl 0 rfl) ?_
    refine lv_iload_n hx hb dX5_course_1 rfl (lv_at hl 1 rfl) ?_
    refine z_xcallr (vx_runV (As := [.int (nI i)]) (rest := []) ⟨hx, hb, hml, hown, hts⟩ (c5_findPerson_t l hl9 D cy base w x i (ad 7 0) (ad 0 i) k_x p500 k_A n_A q_i hi10) (cwV 1 hts gX5_course_X5_findPerson rfl rfl rfl (by decide +kernel) ⟨Nat.le_of_ble_eq_true rfl, Nat.le_of_ble_eq_true rfl⟩) (z_preV hA hS hH (z_recv hA hH (zk0 k_x (by decide)) (zE_k6 k_x) (q := (RX5, TX5, 6)) rfl)) rfl rfl hl.1 rfl (lv_room (Nat.le_of_ble_eq_true rfl)) dX5_course_2 ⟨Nat.le_of_ble_eq_true rfl, Nat.le_of_ble_eq_true rfl⟩) hS (fun E_k_1 ce_k_1 q9_k_1 u_k_1 H locs hw_k_1 hH hz_k_1 hS hce_k_1 hv_k_1 hcl_k_1 => ?_) (fun r_k_1 u_k_1 H locs hw_k_1 hH hz_k_1 hS => ?_)
    · exact hw_k_1.elim
    · rcases hw_k_1 with ⟨rfl, hu_k_1⟩
      rw [hu_k_1] at hH
      refine lv_astore (lv' := [(4, .ref (ad 0 i)), (0, .ref x), (1, .int (nI i)), (2, .int sk), (3, .int days)]) hx hb dX5_course_5 hl (by decide) rfl (fun ls hl => ?_)
      refine lv_iload_n hx hb dX5_course_7 rfl (lv_at hl 3 rfl) ?_
      refine z_xcallv (vx_runS (As := [.int sk]) (rest := []) ⟨hx, hb, hml, hown, hts⟩ (c5_checkSkill l hl9 D cy base w sk ) (va_cwS 1 hts gX5_course_X5_checkSkill rfl rfl rfl (by decide +kernel) ⟨Nat.le_of_ble_eq_true rfl, Nat.le_of_ble_eq_true rfl⟩) (z_preS hA hS hH) rfl rfl hl.1 rfl (lv_room (Nat.le_of_ble_eq_true rfl)) dX5_course_8 ⟨Nat.le_of_ble_eq_true rfl, Nat.le_of_ble_eq_true rfl⟩) hS (fun E_k_2 ce_k_2 q9_k_2 u_k_2 H locs hw_k_2 hH hz_k_2 hS hce_k_2 hv_k_2 hcl_k_2 => ?_) (fun u_k_2 H locs hw_k_2 hH hz_k_2 hS => ?_)
      · obtain ⟨t_k_2_0, rfl, hu_k_2⟩ := hw_k_2
        rw [hu_k_2] at hH
        exact z_out htab hlocks hH hS hce_k_2 hv_k_2 hcl_k_2 (by
          have hc : (cd_course B (nI i) sk days) = 1 := by first | (simp [cd_course, t_k_2_0, hvP, hix]; done) | (simp_all [cd_course]; done)
          exact ⟨Or.inl (⟨hc, rfl⟩), rfl⟩) (by decide) (by decide)
      · rcases hw_k_2 with ⟨h_k_2_0, hu_k_2⟩
        rw [hu_k_2] at hH
        refine lv_iload_n hx hb dX5_course_11 rfl (lv_at hl 4 rfl) ?_
        refine lv_iconst (v := 0) hx hb dX5_course_12 (by decide) ?_
        refine lv_bipush (v := 100) hx hb dX5_course_13 (by decide) ?_
        refine z_xcallv (vx_runS (As := [.int days, .int 0, .int 100]) (rest := []) ⟨hx, hb, hml, hown, hts⟩ (c5_checkRange l hl9 D cy base w days 0 100 ) (va_cwS 3 hts gX5_course_X5_checkRange rfl rfl rfl (by decide +kernel) ⟨Nat.le_of_ble_eq_true rfl, Nat.le_of_ble_eq_true rfl⟩) (z_preS hA hS hH) rfl rfl hl.1 rfl (lv_room (Nat.le_of_ble_eq_true rfl)) dX5_course_15 ⟨Nat.le_of_ble_eq_true rfl, Nat.le_of_ble_eq_true rfl⟩) hS (fun E_k_3 ce_k_3 q9_k_3 u_k_3 H locs hw_k_3 hH hz_k_3 hS hce_k_3 hv_k_3 hcl_k_3 => ?_) (fun u_k_3 H locs hw_k_3 hH hz_k_3 hS => ?_)
        · obtain ⟨t_k_3_0, rfl, hu_k_3⟩ := hw_k_3
          rw [hu_k_3] at hH
          exact z_out htab hlocks hH hS hce_k_3 hv_k_3 hcl_k_3 (by
            have hc : (cd_course B (nI i) sk days) = 2 := by first | (simp [cd_course, h_k_2_0, t_k_3_0, hvP, hix]; done) | (simp_all [cd_course]; done)
            exact ⟨Or.inr (Or.inl (⟨hc, rfl⟩)), rfl⟩) (by decide) (by decide)
        · rcases hw_k_3 with ⟨h_k_3_0, hu_k_3⟩
          rw [hu_k_3] at hH
          refine lv_aload hx hb dX5_course_18 (lv_at hl 0 rfl) ?_
          refine z_xcallv (vx_runS (As := [.ref (ad 0 i)]) (rest := []) ⟨hx, hb, hml, hown, hts⟩ (c5_checkIn l hl9 D cy base w (ad 0 i) k_p) (va_cwS 1 hts gX5_course_X5_checkIn rfl rfl rfl (by decide +kernel) ⟨Nat.le_of_ble_eq_true rfl, Nat.le_of_ble_eq_true rfl⟩) (z_preS hA hS hH) rfl rfl hl.1 rfl (lv_room (Nat.le_of_ble_eq_true rfl)) dX5_course_20 ⟨Nat.le_of_ble_eq_true rfl, Nat.le_of_ble_eq_true rfl⟩) hS (fun E_k_4 ce_k_4 q9_k_4 u_k_4 H locs hw_k_4 hH hz_k_4 hS hce_k_4 hv_k_4 hcl_k_4 => ?_) (fun u_k_4 H locs hw_k_4 hH hz_k_4 hS => ?_)
          · obtain ⟨t_k_4_0, rfl, hu_k_4⟩ := hw_k_4
            rw [hu_k_4] at hH
            have hIn : ¬ B 2 i = 0 := fun z => t_k_4_0 ((h212 i hi).trans z)
            exact z_out htab hlocks hH hS hce_k_4 hv_k_4 hcl_k_4 (by
              have hc : (cd_course B (nI i) sk days) = 3 := by first | (simp [cd_course, h_k_2_0, h_k_3_0, t_k_4_0, hvP, hix, hIn]; done) | (simp_all [cd_course]; done)
              exact ⟨Or.inr (Or.inr (⟨hc, rfl⟩)), rfl⟩) (by decide) (by decide)
          · rcases hw_k_4 with ⟨h_k_4_0, hu_k_4⟩
            rw [hu_k_4] at hH
            have hIn : B 2 i = 0 := (h212 i hi).symm.trans h_k_4_0
            refine lv_aload hx hb dX5_course_23 (lv_at hl 0 rfl) ?_
            refine lv_iload_n hx hb dX5_course_25 rfl (lv_at hl 3 rfl) ?_
            refine lv_iload_n hx hb dX5_course_26 rfl (lv_at hl 4 rfl) ?_
            refine z_xcallv (vx_runV (As := [.int sk, .int days]) (rest := []) ⟨hx, hb, hml, hown, hts⟩ (c2_enterCourse l hl9 D cy base w (ad 0 i) sk days k_p) (cwV 2 hts gX5_course_X2_enterCourse rfl rfl rfl (by decide +kernel) ⟨Nat.le_of_ble_eq_true rfl, Nat.le_of_ble_eq_true rfl⟩) (z_preV hA hS hH (z_recv hA hH (zk0 k_p (by decide)) (zE_k3 k_p) (q := (RX2, TX2, 14)) rfl)) rfl rfl hl.1 rfl (lv_room (Nat.le_of_ble_eq_true rfl)) dX5_course_27 ⟨Nat.le_of_ble_eq_true rfl, Nat.le_of_ble_eq_true rfl⟩) hS (fun E_k_5 ce_k_5 q9_k_5 u_k_5 H locs hw_k_5 hH hz_k_5 hS hce_k_5 hv_k_5 hcl_k_5 => ?_) (fun u_k_5 H locs hw_k_5 hH hz_k_5 hS => ?_)
            · obtain ⟨t_k_5_0, rfl, hu_k_5⟩ := hw_k_5
              rw [hu_k_5] at hH
              have h9 : B 9 i = 50 := Classical.not_not.mp (fun z => t_k_5_0 ((rm_eq hR hinv hi).mpr z))
              exact z_out htab hlocks hH hS hce_k_5 hv_k_5 hcl_k_5 (by
                have hc : (cd_course B (nI i) sk days) = 3 := by first | (simp [cd_course, h_k_2_0, h_k_3_0, h_k_4_0, t_k_5_0, hvP, hix, hIn, h9]; done) | (simp_all [cd_course]; done)
                exact ⟨Or.inr (Or.inr (⟨hc, rfl⟩)), rfl⟩) (by decide) (by decide)
            · rcases hw_k_5 with ⟨h_k_5_0, hu_k_5⟩
              rw [hu_k_5] at hH
              have h9 : ¬ B 9 i = 50 := (rm_eq hR hinv hi).mp h_k_5_0
              refine lv_aload hx hb dX5_course_30 (lv_at hl 0 rfl) ?_
              refine z_calli (va_runV (As := []) (rest := []) ⟨hx, hb, hml, hown, hts⟩ (c2_releaseDay l D cy base (zsI (zsI (zsI (zsI w 202 (ad 0 i) ((zI w 202 (ad 0 i)) ||| (1 <<< (sk &&& 31)))) 205 (ad 0 i) ((zI w 205 (ad 0 i)) + 1)) 206 (ad 0 i) ((zI w 206 (ad 0 i)) + days)) 203 (ad 0 i) (if 2 < ((zI w 203 (ad 0 i)) + 1) then 2 else ((zI w 203 (ad 0 i)) + 1))) (ad 0 i) k_p) (cwV 0 hts gX5_course_X2_releaseDay rfl rfl rfl (by decide +kernel) ⟨Nat.le_of_ble_eq_true rfl, Nat.le_of_ble_eq_true rfl⟩) (z_preV hA hS hH (z_recv hA hH (zk0 k_p (by decide)) (zE_k3 k_p) (q := (RX2, TX2, 14)) rfl)) rfl rfl hl.1 rfl (lv_room (Nat.le_of_ble_eq_true rfl)) dX5_course_32 ⟨Nat.le_of_ble_eq_true rfl, Nat.le_of_ble_eq_true rfl⟩) hS (fun r_k_6 u_k_6 H locs hw_k_6 hH hz_k_6 hS => ?_)
              rcases hw_k_6 with ⟨h_k_6_0, rfl, hu_k_6⟩ | ⟨h_k_6_0, rfl, hu_k_6⟩
              · rw [hu_k_6] at hH
                refine vx_ret ?_
                exact z_iret hx hb hr hlocks hH hS (by
                  have hc : (cd_course B (nI i) sk days) = 0 := by first | (simp [cd_course, h_k_2_0, h_k_3_0, h_k_4_0, h_k_5_0, h_k_6_0, hvP, hix, hIn, h9]; done) | (simp_all [cd_course]; done)
                  have hR2 := rw_course hR hinv2 hi hix sk days
                  refine ⟨hc, ?_, ⟨ad, hR2⟩, (cI (k := 3) (cI (k := 3) (cI (k := 3) (cI (k := 3) (cFr_rf _) k_p (by decide)) k_p (by decide)) k_p (by decide)) k_p (by decide))⟩
                  exact absurd ((h212 i hi).trans hIn) h_k_6_0) (by decide) (by decide) dX5_course_35
              · rw [hu_k_6] at hH
                refine vx_ret ?_
                exact z_iret hx hb hr hlocks hH hS (by
                  have hc : (cd_course B (nI i) sk days) = 0 := by first | (simp [cd_course, h_k_2_0, h_k_3_0, h_k_4_0, h_k_5_0, h_k_6_0, hvP, hix, hIn, h9]; done) | (simp_all [cd_course]; done)
                  have hR2 := rw_course hR hinv2 hi hix sk days
                  refine ⟨hc, ?_, ⟨ad, hR2⟩, (cI (k := 3) (cI (k := 3) (cI (k := 3) (cI (k := 3) (cFr_rf _) k_p (by decide)) k_p (by decide)) k_p (by decide)) k_p (by decide))⟩
                  show _ = sRel (up_course B (nI i) sk days) (ix (nI i))
                  rw [hix]
                  exact (rel_of hR2 hi).1 hIn) (by decide) (by decide) dX5_course_35
  · have hno := vP_no hinv hvP qA
    refine lv_aload_n hx hb dX5_course_0 rfl (lv_at hl 0 rfl) ?_
    refine lv_iload_n hx hb dX5_course_1 rfl (lv_at hl 1 rfl) ?_
    refine z_xcallr (vx_runV (As := [.int its]) (rest := []) ⟨hx, hb, hml, hown, hts⟩ (c5_findPerson_f l hl9 D cy base w x its (ad 7 0) k_x p500 k_A n_A hno) (cwV 1 hts gX5_course_X5_findPerson rfl rfl rfl (by decide +kernel) ⟨Nat.le_of_ble_eq_true rfl, Nat.le_of_ble_eq_true rfl⟩) (z_preV hA hS hH (z_recv hA hH (zk0 k_x (by decide)) (zE_k6 k_x) (q := (RX5, TX5, 6)) rfl)) rfl rfl hl.1 rfl (lv_room (Nat.le_of_ble_eq_true rfl)) dX5_course_2 ⟨Nat.le_of_ble_eq_true rfl, Nat.le_of_ble_eq_true rfl⟩) hS (fun E_k_7 ce_k_7 q9_k_7 u_k_7 H locs hw_k_7 hH hz_k_7 hS hce_k_7 hv_k_7 hcl_k_7 => ?_) (fun r_k_7 u_k_7 H locs hw_k_7 hH hz_k_7 hS => ?_)
    · obtain ⟨rfl, hu_k_7⟩ := hw_k_7
      rw [hu_k_7] at hH
      exact z_out htab hlocks hH hS hce_k_7 hv_k_7 hcl_k_7 (by
        have hc : (cd_course B its sk days) = 1 := by first | (simp [cd_course, hvP]; done) | (simp_all [cd_course]; done)
        exact ⟨Or.inl (⟨hc, rfl⟩), rfl⟩) (by decide) (by decide)
    · exact hw_k_7.elim
set_option maxHeartbeats 4000000 in
set_option maxRecDepth 100000 in
theorem c5_offence (l : Launch) (hl9 : l.stackTraces = false) (D : va_G) (cy : Nat → ClassId) (base : Nat) (w : zW) (x : Nat) (ad : Nat → Nat → Nat) (B : mB) (its : Int32) (days : Int32) (hR : rAll w x ad B) (hinv : mInv B) (hinv2 : mInv2 B) : vx_Met l yX5_offence wsX5_offence ({ frames := 7, cells := 6, slots := 70, locals := 114 }) (zPc D cy base (zH D cy base) [.ref x, .int its, .int days] w) (zQi base (zH D cy base) (fun (r0 : Int32) (u0 : zW) => (cd_offence B its days) = 0 ∧ r0 = (an_offence B its) ∧ Rep u0 x (up_offence B its days) ∧ cFr w u0)) (zXC base (zH D cy base) (fun (E : String) (u0 : zW) => thr3 (cd_offence B its days) E ∧ u0 = w)) 6 70 (fun q => base ≤ q) := by
  refine vx_ofW (cc := cX5_offence) (maxL := 4) (ret := (some .int)) (by decide) rfl ?_
  intro p e s m args below meth c s₁ B9 hml htab hv
  obtain ⟨rfl, hA, hH⟩ := hv
  have hx := B9.exec
  have hb := B9.bytes
  have hr := B9.returns
  have hts := atoms_spec (ws := wsX5_offence) B9.pre
  have hown : s.vm.findClass RX5 = some m.cls := findClass_of_methodNamed B9.named
  have hlocks := B9.notSynchronized
  have hi5 : ∀ w ∈ wsX50, w ∈ wsX5_offence := by decide +kernel
  have hS : va_S (fun q : Nat => base ≤ q) s.heap s.heap [] := va_S.rf
  have hl := lv_entry ([.ref x, .int its, .int days]) (n := 4) (Nat.le_of_ble_eq_true rfl)
  rw [lg_entry_eq]
  generalize (lg_sl ([.ref x, .int its, .int days]) ++ List.replicate (4 - (lg_sl ([.ref x, .int its, .int days])).length) Slot.unset).toArray = ls at hl ⊢
  have hl : lv_has ls 4 [(0, .ref x), (1, .int its), (2, .int days)] := hl
  have hR9 := hR
  obtain ⟨⟨⟨k_x, i503, i504, i505⟩, ⟨p500, p501, p502⟩, k_A, n_A, k_O, n_O, k_T, n_T⟩, ⟨qA, qO, qT⟩, hTool, hPk, ⟨h200, h201, h202, h203, h204, h205, h206, h208, h209, h212, h213⟩, hPo, ⟨h301, h302, h303, hAc⟩, ⟨hOq, hOf⟩, hOr, hInj⟩ := hR9
  rcases vP_split hinv its with ⟨i, rfl, hi, hi10, hvP, hix⟩ | hvP
  · have q_i : zQ w (ad 7 0) i = some (ad 0 i) := by rw [qA i hi10, if_pos hi]
    obtain ⟨k_p, p207, p211, k_f, n_f, k_q, p300, k_r, n_r⟩ := hPk i hi
    obtain ⟨h10, h50⟩ := mInv_oc50 hinv hi
    by_cases hon : B 11 i = -1
    · have p210 : zP w 210 (ad 0 i) = none := by rw [hPo i hi, if_pos hon]
      refine lv_aload_n hx hb dX5_offence_0 rfl (lv_at hl 0 rfl) ?_
      refine lv_iload_n hx hb dX5_offence_1 rfl (lv_at hl 1 rfl) ?_
      refine z_xcallr (vx_runV (As := [.int (nI i)]) (rest := []) ⟨hx, hb, hml, hown, hts⟩ (c5_findPerson_t l hl9 D cy base w x i (ad 7 0) (ad 0 i) k_x p500 k_A n_A q_i hi10) (cwV 1 hts gX5_offence_X5_findPerson rfl rfl rfl (by decide +kernel) ⟨Nat.le_of_ble_eq_true rfl, Nat.le_of_ble_eq_true rfl⟩) (z_preV hA hS hH (z_recv hA hH (zk0 k_x (by decide)) (zE_k6 k_x) (q := (RX5, TX5, 6)) rfl)) rfl rfl hl.1 rfl (lv_room (Nat.le_of_ble_eq_true rfl)) dX5_offence_2 ⟨Nat.le_of_ble_eq_true rfl, Nat.le_of_ble_eq_true rfl⟩) hS (fun E_k_1 ce_k_1 q9_k_1 u_k_1 H locs hw_k_1 hH hz_k_1 hS hce_k_1 hv_k_1 hcl_k_1 => ?_) (fun r_k_1 u_k_1 H locs hw_k_1 hH hz_k_1 hS => ?_)
      · exact hw_k_1.elim
      · rcases hw_k_1 with ⟨rfl, hu_k_1⟩
        rw [hu_k_1] at hH
        refine lv_astore_n (lv' := [(3, .ref (ad 0 i)), (0, .ref x), (1, .int (nI i)), (2, .int days)]) hx hb dX5_offence_5 rfl hl (by decide) rfl (fun ls hl => ?_)
        refine lv_iload_n hx hb dX5_offence_6 rfl (lv_at hl 3 rfl) ?_
        refine lv_iconst (v := 0) hx hb dX5_offence_7 (by decide) ?_
        refine lv_bipush (v := 100) hx hb dX5_offence_8 (by decide) ?_
        refine z_xcallv (vx_runS (As := [.int days, .int 0, .int 100]) (rest := []) ⟨hx, hb, hml, hown, hts⟩ (c5_checkRange l hl9 D cy base w days 0 100 ) (va_cwS 3 hts gX5_offence_X5_checkRange rfl rfl rfl (by decide +kernel) ⟨Nat.le_of_ble_eq_true rfl, Nat.le_of_ble_eq_true rfl⟩) (z_preS hA hS hH) rfl rfl hl.1 rfl (lv_room (Nat.le_of_ble_eq_true rfl)) dX5_offence_10 ⟨Nat.le_of_ble_eq_true rfl, Nat.le_of_ble_eq_true rfl⟩) hS (fun E_k_2 ce_k_2 q9_k_2 u_k_2 H locs hw_k_2 hH hz_k_2 hS hce_k_2 hv_k_2 hcl_k_2 => ?_) (fun u_k_2 H locs hw_k_2 hH hz_k_2 hS => ?_)
        · obtain ⟨t_k_2_0, rfl, hu_k_2⟩ := hw_k_2
          rw [hu_k_2] at hH
          exact z_out htab hlocks hH hS hce_k_2 hv_k_2 hcl_k_2 (by
            have hc : (cd_offence B (nI i) days) = 2 := by first | (simp [cd_offence, t_k_2_0, hvP, hix, hon]; done) | (simp_all [cd_offence]; done)
            exact ⟨Or.inr (Or.inl (⟨hc, rfl⟩)), rfl⟩) (by decide) (by decide)
        · rcases hw_k_2 with ⟨h_k_2_0, hu_k_2⟩
          rw [hu_k_2] at hH
          refine lv_aload_n hx hb dX5_offence_13 rfl (lv_at hl 0 rfl) ?_
          refine z_xcallv (vx_runS (As := [.ref (ad 0 i)]) (rest := []) ⟨hx, hb, hml, hown, hts⟩ (c5_checkIn l hl9 D cy base w (ad 0 i) k_p) (va_cwS 1 hts gX5_offence_X5_checkIn rfl rfl rfl (by decide +kernel) ⟨Nat.le_of_ble_eq_true rfl, Nat.le_of_ble_eq_true rfl⟩) (z_preS hA hS hH) rfl rfl hl.1 rfl (lv_room (Nat.le_of_ble_eq_true rfl)) dX5_offence_14 ⟨Nat.le_of_ble_eq_true rfl, Nat.le_of_ble_eq_true rfl⟩) hS (fun E_k_3 ce_k_3 q9_k_3 u_k_3 H locs hw_k_3 hH hz_k_3 hS hce_k_3 hv_k_3 hcl_k_3 => ?_) (fun u_k_3 H locs hw_k_3 hH hz_k_3 hS => ?_)
          · obtain ⟨t_k_3_0, rfl, hu_k_3⟩ := hw_k_3
            rw [hu_k_3] at hH
            have hIn : ¬ B 2 i = 0 := fun z => t_k_3_0 ((h212 i hi).trans z)
            exact z_out htab hlocks hH hS hce_k_3 hv_k_3 hcl_k_3 (by
              have hc : (cd_offence B (nI i) days) = 3 := by first | (simp [cd_offence, h_k_2_0, t_k_3_0, hvP, hix, hon, hIn]; done) | (simp_all [cd_offence]; done)
              exact ⟨Or.inr (Or.inr (⟨hc, rfl⟩)), rfl⟩) (by decide) (by decide)
          · rcases hw_k_3 with ⟨h_k_3_0, hu_k_3⟩
            rw [hu_k_3] at hH
            have hIn : B 2 i = 0 := (h212 i hi).symm.trans h_k_3_0
            refine lv_aload_n hx hb dX5_offence_17 rfl (lv_at hl 0 rfl) ?_
            refine lv_aload_n hx hb dX5_offence_18 rfl (lv_at hl 1 rfl) ?_
            refine z_get (C := RX5) (T := TX5) (N := 6) (ci := 5) (index := 43) (v := .int (zI w 505 x)) hx hb hts hi5 hown hA hH (zk0 k_x (by decide)) (zE_k6 k_x) rfl 5 (by decide) (hts (.fieldLink RX5 43 "ParoleCards" "today" "I") (by decide +kernel)) (fun _ h9 => h9) rfl dX5_offence_19 ?_
            refine lv_iload_n hx hb dX5_offence_22 rfl (lv_at hl 3 rfl) ?_
            refine z_xcalli (vx_runV (As := [.int (zI w 505 x), .int days]) (rest := []) ⟨hx, hb, hml, hown, hts⟩ (c2_enterOffence_n l hl9 D cy base w (ad 0 i) (zI w 505 x) days (oc B i) (ad 3 i) k_p p207 k_f n_f p210 ((h208 i hi).trans h10) h50) (cwV 2 hts gX5_offence_X2_enterOffence rfl rfl rfl (by decide +kernel) ⟨Nat.le_of_ble_eq_true rfl, Nat.le_of_ble_eq_true rfl⟩) (z_preV hA hS hH (z_recv hA hH (zk0 k_p (by decide)) (zE_k3 k_p) (q := (RX2, TX2, 14)) rfl)) rfl rfl hl.1 rfl (lv_room (Nat.le_of_ble_eq_true rfl)) dX5_offence_23 ⟨Nat.le_of_ble_eq_true rfl, Nat.le_of_ble_eq_true rfl⟩) hS (fun E_k_4 ce_k_4 q9_k_4 u_k_4 H locs hw_k_4 hH hz_k_4 hS hce_k_4 hv_k_4 hcl_k_4 => ?_) (fun r_k_4 u_k_4 H locs hw_k_4 hH hz_k_4 hS => ?_)
            · obtain ⟨t_k_4_0, rfl, hu_k_4⟩ := hw_k_4
              rw [hu_k_4] at hH
              have h9 : B 9 i = 50 := Classical.not_not.mp (fun z => t_k_4_0 ((rm2_eq hR hinv hi).mpr z))
              exact z_out htab hlocks hH hS hce_k_4 hv_k_4 hcl_k_4 (by
                have hc : (cd_offence B (nI i) days) = 3 := by first | (simp [cd_offence, h_k_2_0, h_k_3_0, t_k_4_0, hvP, hix, hon, hIn, h9]; done) | (simp_all [cd_offence]; done)
                exact ⟨Or.inr (Or.inr (⟨hc, rfl⟩)), rfl⟩) (by decide) (by decide)
            · rcases hw_k_4 with ⟨h_k_4_0, h_k_4_1, h_k_4_2, rfl, hu_k_4⟩ | ⟨h_k_4_0, h_k_4_1, h_k_4_2, rfl, hu_k_4⟩
              · have h9 : ¬ B 9 i = 50 := (rm_eq hR hinv hi).mp h_k_4_0
                obtain ⟨e9, hf9, hu9⟩ := h_k_4_2
                rw [hu9] at hH
                refine vx_ret ?_
                exact z_iret hx hb hr hlocks hH hS (by
                  have hc : (cd_offence B (nI i) days) = 0 := by first | (simp [cd_offence, h_k_2_0, h_k_3_0, h_k_4_0, h_k_4_1, h_k_4_2, hvP, hix, hon, hIn, h9]; done) | (simp_all [cd_offence]; done)
                  refine ⟨hc, ?_, ?_⟩
                  · show _ = B 10 (ix (nI i)) + 1 - 1
                    rw [i32_11, hix]; exact h208 i hi
                  · exact rw_off_1n hR hinv hi hix h9 i505 h_k_4_1 hon hf9) (by decide) (by decide) dX5_offence_26
              · have h9 : ¬ B 9 i = 50 := (rm_eq hR hinv hi).mp h_k_4_0
                obtain ⟨e9, hf9, hu9⟩ := h_k_4_2
                rw [hu9] at hH
                refine vx_ret ?_
                exact z_iret hx hb hr hlocks hH hS (by
                  have hc : (cd_offence B (nI i) days) = 0 := by first | (simp [cd_offence, h_k_2_0, h_k_3_0, h_k_4_0, h_k_4_1, h_k_4_2, hvP, hix, hon, hIn, h9]; done) | (simp_all [cd_offence]; done)
                  refine ⟨hc, ?_, ?_⟩
                  · show _ = B 10 (ix (nI i)) + 1 - 1
                    rw [i32_11, hix]; exact h208 i hi
                  · exact rw_off_0n hR hinv hi hix h9 i505 h_k_4_1 hon hf9) (by decide) (by decide) dX5_offence_26
    · have p210 : zP w 210 (ad 0 i) = some (ad 5 (ox B i)) := by rw [hPo i hi, if_neg hon]
      obtain ⟨hoe, hoj⟩ := (hinv.2.2.1 i hi).2.2.2.2.resolve_left hon
      obtain ⟨k_o, i100, i101, p102, i103, i104, i105⟩ := hOr (ox B i) hoj
      obtain ⟨k_t, i400, i401⟩ := hTool (kx B (ox B i)) (mInv_kx hinv hoj).2
      refine lv_aload_n hx hb dX5_offence_0 rfl (lv_at hl 0 rfl) ?_
      refine lv_iload_n hx hb dX5_offence_1 rfl (lv_at hl 1 rfl) ?_
      refine z_xcallr (vx_runV (As := [.int (nI i)]) (rest := []) ⟨hx, hb, hml, hown, hts⟩ (c5_findPerson_t l hl9 D cy base w x i (ad 7 0) (ad 0 i) k_x p500 k_A n_A q_i hi10) (cwV 1 hts gX5_offence_X5_findPerson rfl rfl rfl (by decide +kernel) ⟨Nat.le_of_ble_eq_true rfl, Nat.le_of_ble_eq_true rfl⟩) (z_preV hA hS hH (z_recv hA hH (zk0 k_x (by decide)) (zE_k6 k_x) (q := (RX5, TX5, 6)) rfl)) rfl rfl hl.1 rfl (lv_room (Nat.le_of_ble_eq_true rfl)) dX5_offence_2 ⟨Nat.le_of_ble_eq_true rfl, Nat.le_of_ble_eq_true rfl⟩) hS (fun E_k_5 ce_k_5 q9_k_5 u_k_5 H locs hw_k_5 hH hz_k_5 hS hce_k_5 hv_k_5 hcl_k_5 => ?_) (fun r_k_5 u_k_5 H locs hw_k_5 hH hz_k_5 hS => ?_)
      · exact hw_k_5.elim
      · rcases hw_k_5 with ⟨rfl, hu_k_5⟩
        rw [hu_k_5] at hH
        refine lv_astore_n (lv' := [(3, .ref (ad 0 i)), (0, .ref x), (1, .int (nI i)), (2, .int days)]) hx hb dX5_offence_5 rfl hl (by decide) rfl (fun ls hl => ?_)
        refine lv_iload_n hx hb dX5_offence_6 rfl (lv_at hl 3 rfl) ?_
        refine lv_iconst (v := 0) hx hb dX5_offence_7 (by decide) ?_
        refine lv_bipush (v := 100) hx hb dX5_offence_8 (by decide) ?_
        refine z_xcallv (vx_runS (As := [.int days, .int 0, .int 100]) (rest := []) ⟨hx, hb, hml, hown, hts⟩ (c5_checkRange l hl9 D cy base w days 0 100 ) (va_cwS 3 hts gX5_offence_X5_checkRange rfl rfl rfl (by decide +kernel) ⟨Nat.le_of_ble_eq_true rfl, Nat.le_of_ble_eq_true rfl⟩) (z_preS hA hS hH) rfl rfl hl.1 rfl (lv_room (Nat.le_of_ble_eq_true rfl)) dX5_offence_10 ⟨Nat.le_of_ble_eq_true rfl, Nat.le_of_ble_eq_true rfl⟩) hS (fun E_k_6 ce_k_6 q9_k_6 u_k_6 H locs hw_k_6 hH hz_k_6 hS hce_k_6 hv_k_6 hcl_k_6 => ?_) (fun u_k_6 H locs hw_k_6 hH hz_k_6 hS => ?_)
        · obtain ⟨t_k_6_0, rfl, hu_k_6⟩ := hw_k_6
          rw [hu_k_6] at hH
          exact z_out htab hlocks hH hS hce_k_6 hv_k_6 hcl_k_6 (by
            have hc : (cd_offence B (nI i) days) = 2 := by first | (simp [cd_offence, t_k_6_0, hvP, hix, hon]; done) | (simp_all [cd_offence]; done)
            exact ⟨Or.inr (Or.inl (⟨hc, rfl⟩)), rfl⟩) (by decide) (by decide)
        · rcases hw_k_6 with ⟨h_k_6_0, hu_k_6⟩
          rw [hu_k_6] at hH
          refine lv_aload_n hx hb dX5_offence_13 rfl (lv_at hl 0 rfl) ?_
          refine z_xcallv (vx_runS (As := [.ref (ad 0 i)]) (rest := []) ⟨hx, hb, hml, hown, hts⟩ (c5_checkIn l hl9 D cy base w (ad 0 i) k_p) (va_cwS 1 hts gX5_offence_X5_checkIn rfl rfl rfl (by decide +kernel) ⟨Nat.le_of_ble_eq_true rfl, Nat.le_of_ble_eq_true rfl⟩) (z_preS hA hS hH) rfl rfl hl.1 rfl (lv_room (Nat.le_of_ble_eq_true rfl)) dX5_offence_14 ⟨Nat.le_of_ble_eq_true rfl, Nat.le_of_ble_eq_true rfl⟩) hS (fun E_k_7 ce_k_7 q9_k_7 u_k_7 H locs hw_k_7 hH hz_k_7 hS hce_k_7 hv_k_7 hcl_k_7 => ?_) (fun u_k_7 H locs hw_k_7 hH hz_k_7 hS => ?_)
          · obtain ⟨t_k_7_0, rfl, hu_k_7⟩ := hw_k_7
            rw [hu_k_7] at hH
            have hIn : ¬ B 2 i = 0 := fun z => t_k_7_0 ((h212 i hi).trans z)
            exact z_out htab hlocks hH hS hce_k_7 hv_k_7 hcl_k_7 (by
              have hc : (cd_offence B (nI i) days) = 3 := by first | (simp [cd_offence, h_k_6_0, t_k_7_0, hvP, hix, hon, hIn]; done) | (simp_all [cd_offence]; done)
              exact ⟨Or.inr (Or.inr (⟨hc, rfl⟩)), rfl⟩) (by decide) (by decide)
          · rcases hw_k_7 with ⟨h_k_7_0, hu_k_7⟩
            rw [hu_k_7] at hH
            have hIn : B 2 i = 0 := (h212 i hi).symm.trans h_k_7_0
            refine lv_aload_n hx hb dX5_offence_17 rfl (lv_at hl 0 rfl) ?_
            refine lv_aload_n hx hb dX5_offence_18 rfl (lv_at hl 1 rfl) ?_
            refine z_get (C := RX5) (T := TX5) (N := 6) (ci := 5) (index := 43) (v := .int (zI w 505 x)) hx hb hts hi5 hown hA hH (zk0 k_x (by decide)) (zE_k6 k_x) rfl 5 (by decide) (hts (.fieldLink RX5 43 "ParoleCards" "today" "I") (by decide +kernel)) (fun _ h9 => h9) rfl dX5_offence_19 ?_
            refine lv_iload_n hx hb dX5_offence_22 rfl (lv_at hl 3 rfl) ?_
            refine z_xcalli (vx_runV (As := [.int (zI w 505 x), .int days]) (rest := []) ⟨hx, hb, hml, hown, hts⟩ (c2_enterOffence_s l hl9 D cy base w (ad 0 i) (zI w 505 x) days (oc B i) (ad 3 i) (ad 5 (ox B i)) (ad 6 (kx B (ox B i))) k_p p207 k_f n_f p210 k_o p102 k_t ((h208 i hi).trans h10) h50) (cwV 2 hts gX5_offence_X2_enterOffence rfl rfl rfl (by decide +kernel) ⟨Nat.le_of_ble_eq_true rfl, Nat.le_of_ble_eq_true rfl⟩) (z_preV hA hS hH (z_recv hA hH (zk0 k_p (by decide)) (zE_k3 k_p) (q := (RX2, TX2, 14)) rfl)) rfl rfl hl.1 rfl (lv_room (Nat.le_of_ble_eq_true rfl)) dX5_offence_23 ⟨Nat.le_of_ble_eq_true rfl, Nat.le_of_ble_eq_true rfl⟩) hS (fun E_k_8 ce_k_8 q9_k_8 u_k_8 H locs hw_k_8 hH hz_k_8 hS hce_k_8 hv_k_8 hcl_k_8 => ?_) (fun r_k_8 u_k_8 H locs hw_k_8 hH hz_k_8 hS => ?_)
            · obtain ⟨t_k_8_0, rfl, hu_k_8⟩ := hw_k_8
              rw [hu_k_8] at hH
              have h9 : B 9 i = 50 := Classical.not_not.mp (fun z => t_k_8_0 ((rm2_eq hR hinv hi).mpr z))
              exact z_out htab hlocks hH hS hce_k_8 hv_k_8 hcl_k_8 (by
                have hc : (cd_offence B (nI i) days) = 3 := by first | (simp [cd_offence, h_k_6_0, h_k_7_0, t_k_8_0, hvP, hix, hon, hIn, h9]; done) | (simp_all [cd_offence]; done)
                exact ⟨Or.inr (Or.inr (⟨hc, rfl⟩)), rfl⟩) (by decide) (by decide)
            · rcases hw_k_8 with ⟨h_k_8_0, h_k_8_1, h_k_8_2, rfl, hu_k_8⟩ | ⟨h_k_8_0, h_k_8_1, h_k_8_2, rfl, hu_k_8⟩
              · have h9 : ¬ B 9 i = 50 := (rm_eq hR hinv hi).mp h_k_8_0
                obtain ⟨e9, hf9, hu9⟩ := h_k_8_2
                rw [hu9] at hH
                refine vx_ret ?_
                exact z_iret hx hb hr hlocks hH hS (by
                  have hc : (cd_offence B (nI i) days) = 0 := by first | (simp [cd_offence, h_k_6_0, h_k_7_0, h_k_8_0, h_k_8_1, h_k_8_2, hvP, hix, hon, hIn, h9]; done) | (simp_all [cd_offence]; done)
                  refine ⟨hc, ?_, ?_⟩
                  · show _ = B 10 (ix (nI i)) + 1 - 1
                    rw [i32_11, hix]; exact h208 i hi
                  · exact rw_off_1s hR hinv hi hix h9 i505 h_k_8_1 hon hf9) (by decide) (by decide) dX5_offence_26
              · have h9 : ¬ B 9 i = 50 := (rm_eq hR hinv hi).mp h_k_8_0
                obtain ⟨e9, hf9, hu9⟩ := h_k_8_2
                rw [hu9] at hH
                refine vx_ret ?_
                exact z_iret hx hb hr hlocks hH hS (by
                  have hc : (cd_offence B (nI i) days) = 0 := by first | (simp [cd_offence, h_k_6_0, h_k_7_0, h_k_8_0, h_k_8_1, h_k_8_2, hvP, hix, hon, hIn, h9]; done) | (simp_all [cd_offence]; done)
                  refine ⟨hc, ?_, ?_⟩
                  · show _ = B 10 (ix (nI i)) + 1 - 1
                    rw [i32_11, hix]; exact h208 i hi
                  · exact rw_off_0s hR hinv hi hix h9 i505 h_k_8_1 hon hf9) (by decide) (by decide) dX5_offence_26
  · have hno := vP_no hinv hvP qA
    refine lv_aload_n hx hb dX5_offence_0 rfl (lv_at hl 0 rfl) ?_
    refine lv_iload_n hx hb dX5_offence_1 rfl (lv_at hl 1 rfl) ?_
    refine z_xcallr (vx_runV (As := [.int its]) (rest := []) ⟨hx, hb, hml, hown, hts⟩ (c5_findPerson_f l hl9 D cy base w x its (ad 7 0) k_x p500 k_A n_A hno) (cwV 1 hts gX5_offence_X5_findPerson rfl rfl rfl (by decide +kernel) ⟨Nat.le_of_ble_eq_true rfl, Nat.le_of_ble_eq_true rfl⟩) (z_preV hA hS hH (z_recv hA hH (zk0 k_x (by decide)) (zE_k6 k_x) (q := (RX5, TX5, 6)) rfl)) rfl rfl hl.1 rfl (lv_room (Nat.le_of_ble_eq_true rfl)) dX5_offence_2 ⟨Nat.le_of_ble_eq_true rfl, Nat.le_of_ble_eq_true rfl⟩) hS (fun E_k_9 ce_k_9 q9_k_9 u_k_9 H locs hw_k_9 hH hz_k_9 hS hce_k_9 hv_k_9 hcl_k_9 => ?_) (fun r_k_9 u_k_9 H locs hw_k_9 hH hz_k_9 hS => ?_)
    · obtain ⟨rfl, hu_k_9⟩ := hw_k_9
      rw [hu_k_9] at hH
      exact z_out htab hlocks hH hS hce_k_9 hv_k_9 hcl_k_9 (by
        have hc : (cd_offence B its days) = 1 := by first | (simp [cd_offence, hvP]; done) | (simp_all [cd_offence]; done)
        exact ⟨Or.inl (⟨hc, rfl⟩), rfl⟩) (by decide) (by decide)
    · exact hw_k_9.elim
set_option maxHeartbeats 4000000 in
set_option maxRecDepth 100000 in
theorem c5_appeal (l : Launch) (hl9 : l.stackTraces = false) (D : va_G) (cy : Nat → ClassId) (base : Nat) (w : zW) (x : Nat) (ad : Nat → Nat → Nat) (B : mB) (its : Int32) (which : Int32) (hR : rAll w x ad B) (hinv : mInv B) (hinv2 : mInv2 B) : vx_Met l yX5_appeal wsX5_appeal ({ frames := 7, cells := 6, slots := 70, locals := 112 }) (zPc D cy base (zH D cy base) [.ref x, .int its, .int which] w) (zQi base (zH D cy base) (fun (r0 : Int32) (u0 : zW) => (cd_appeal B its which) = 0 ∧ r0 = (an_appeal B its which) ∧ Rep u0 x (up_appeal B its which) ∧ cFr w u0)) (zXC base (zH D cy base) (fun (E : String) (u0 : zW) => thr2 (cd_appeal B its which) E ∧ u0 = w)) 6 70 (fun q => base ≤ q) := by
  refine vx_ofW (cc := cX5_appeal) (maxL := 5) (ret := (some .int)) (by decide) rfl ?_
  intro p e s m args below meth c s₁ B9 hml htab hv
  obtain ⟨rfl, hA, hH⟩ := hv
  have hx := B9.exec
  have hb := B9.bytes
  have hr := B9.returns
  have hts := atoms_spec (ws := wsX5_appeal) B9.pre
  have hown : s.vm.findClass RX5 = some m.cls := findClass_of_methodNamed B9.named
  have hlocks := B9.notSynchronized
  have hi0 : ∀ w ∈ wsX00, w ∈ wsX5_appeal := by decide +kernel
  have hat_40 : ∀ w ∈ (vx_atS RX5 40 zIse zUp).filter goodWord, w ∈ wsX5_appeal := fun _ h => by first | exact List.mem_cons_of_mem _ (List.mem_append_right _ h) | exact List.mem_cons_of_mem _ (List.mem_append_left _ (List.mem_append_right _ h)) | exact List.mem_cons_of_mem _ (List.mem_append_left _ (List.mem_append_left _ (List.mem_append_right _ h)))
  have hS : va_S (fun q : Nat => base ≤ q) s.heap s.heap [] := va_S.rf
  have hl := lv_entry ([.ref x, .int its, .int which]) (n := 5) (Nat.le_of_ble_eq_true rfl)
  rw [lg_entry_eq]
  generalize (lg_sl ([.ref x, .int its, .int which]) ++ List.replicate (5 - (lg_sl ([.ref x, .int its, .int which])).length) Slot.unset).toArray = ls at hl ⊢
  have hl : lv_has ls 5 [(0, .ref x), (1, .int its), (2, .int which)] := hl
  have hR9 := hR
  obtain ⟨⟨⟨k_x, i503, i504, i505⟩, ⟨p500, p501, p502⟩, k_A, n_A, k_O, n_O, k_T, n_T⟩, ⟨qA, qO, qT⟩, hTool, hPk, ⟨h200, h201, h202, h203, h204, h205, h206, h208, h209, h212, h213⟩, hPo, ⟨h301, h302, h303, hAc⟩, ⟨hOq, hOf⟩, hOr, hInj⟩ := hR9
  rcases vP_split hinv its with ⟨i, rfl, hi, hi10, hvP, hix⟩ | hvP
  · have q_i : zQ w (ad 7 0) i = some (ad 0 i) := by rw [qA i hi10, if_pos hi]
    obtain ⟨k_p, p207, p211, k_f, n_f, k_q, p300, k_r, n_r⟩ := hPk i hi
    obtain ⟨h10, h50⟩ := mInv_oc50 hinv hi
    rcases vLies_const (v := which) (n := oc B i) (by omega) (m := B 10 i - 1) (by rw [h10]) with ⟨k, rfl, hk, hvW, hkx⟩ | hvW
    · have hk50 : k < 50 := by omega
      have q_k : zQ w (ad 3 i) k = some (ad 4 (50 * i + k)) := by rw [hOq i hi k hk50, if_pos hk]
      obtain ⟨k_e, i0, i1, i2, i3⟩ := hOf i hi k hk
      refine lv_aload_n hx hb dX5_appeal_0 rfl (lv_at hl 0 rfl) ?_
      refine lv_iload_n hx hb dX5_appeal_1 rfl (lv_at hl 1 rfl) ?_
      refine z_xcallr (vx_runV (As := [.int (nI i)]) (rest := []) ⟨hx, hb, hml, hown, hts⟩ (c5_findPerson_t l hl9 D cy base w x i (ad 7 0) (ad 0 i) k_x p500 k_A n_A q_i hi10) (cwV 1 hts gX5_appeal_X5_findPerson rfl rfl rfl (by decide +kernel) ⟨Nat.le_of_ble_eq_true rfl, Nat.le_of_ble_eq_true rfl⟩) (z_preV hA hS hH (z_recv hA hH (zk0 k_x (by decide)) (zE_k6 k_x) (q := (RX5, TX5, 6)) rfl)) rfl rfl hl.1 rfl (lv_room (Nat.le_of_ble_eq_true rfl)) dX5_appeal_2 ⟨Nat.le_of_ble_eq_true rfl, Nat.le_of_ble_eq_true rfl⟩) hS (fun E_k_1 ce_k_1 q9_k_1 u_k_1 H locs hw_k_1 hH hz_k_1 hS hce_k_1 hv_k_1 hcl_k_1 => ?_) (fun r_k_1 u_k_1 H locs hw_k_1 hH hz_k_1 hS => ?_)
      · exact hw_k_1.elim
      · rcases hw_k_1 with ⟨rfl, hu_k_1⟩
        rw [hu_k_1] at hH
        refine lv_astore_n (lv' := [(3, .ref (ad 0 i)), (0, .ref x), (1, .int (nI i)), (2, .int (nI k))]) hx hb dX5_appeal_5 rfl hl (by decide) rfl (fun ls hl => ?_)
        refine lv_aload_n hx hb dX5_appeal_6 rfl (lv_at hl 0 rfl) ?_
        refine lv_iload_n hx hb dX5_appeal_7 rfl (lv_at hl 3 rfl) ?_
        refine z_xcallr (vx_runS (As := [.ref (ad 0 i), .int (nI k)]) (rest := []) ⟨hx, hb, hml, hown, hts⟩ (c5_findOffence_t l hl9 D cy base w (ad 0 i) k (ad 3 i) (ad 4 (50 * i + k)) k_p p207 k_f n_f q_k hk50) (va_cwS 2 hts gX5_appeal_X5_findOffence rfl rfl rfl (by decide +kernel) ⟨Nat.le_of_ble_eq_true rfl, Nat.le_of_ble_eq_true rfl⟩) (z_preS hA hS hH) rfl rfl hl.1 rfl (lv_room (Nat.le_of_ble_eq_true rfl)) dX5_appeal_8 ⟨Nat.le_of_ble_eq_true rfl, Nat.le_of_ble_eq_true rfl⟩) hS (fun E_k_2 ce_k_2 q9_k_2 u_k_2 H locs hw_k_2 hH hz_k_2 hS hce_k_2 hv_k_2 hcl_k_2 => ?_) (fun r_k_2 u_k_2 H locs hw_k_2 hH hz_k_2 hS => ?_)
        · exact hw_k_2.elim
        · rcases hw_k_2 with ⟨rfl, hu_k_2⟩
          rw [hu_k_2] at hH
          refine lv_astore (lv' := [(4, .ref (ad 4 (50 * i + k))), (3, .ref (ad 0 i)), (0, .ref x), (1, .int (nI i)), (2, .int (nI k))]) hx hb dX5_appeal_11 hl (by decide) rfl (fun ls hl => ?_)
          refine lv_aload_n hx hb dX5_appeal_13 rfl (lv_at hl 1 rfl) ?_
          refine z_xcallv (vx_runS (As := [.ref (ad 0 i)]) (rest := []) ⟨hx, hb, hml, hown, hts⟩ (c5_checkIn l hl9 D cy base w (ad 0 i) k_p) (va_cwS 1 hts gX5_appeal_X5_checkIn rfl rfl rfl (by decide +kernel) ⟨Nat.le_of_ble_eq_true rfl, Nat.le_of_ble_eq_true rfl⟩) (z_preS hA hS hH) rfl rfl hl.1 rfl (lv_room (Nat.le_of_ble_eq_true rfl)) dX5_appeal_14 ⟨Nat.le_of_ble_eq_true rfl, Nat.le_of_ble_eq_true rfl⟩) hS (fun E_k_3 ce_k_3 q9_k_3 u_k_3 H locs hw_k_3 hH hz_k_3 hS hce_k_3 hv_k_3 hcl_k_3 => ?_) (fun u_k_3 H locs hw_k_3 hH hz_k_3 hS => ?_)
          · obtain ⟨t_k_3_0, rfl, hu_k_3⟩ := hw_k_3
            rw [hu_k_3] at hH
            have hIn : ¬ B 2 i = 0 := fun z => t_k_3_0 ((h212 i hi).trans z)
            exact z_out htab hlocks hH hS hce_k_3 hv_k_3 hcl_k_3 (by
              have hc : (cd_appeal B (nI i) (nI k)) = 2 := by first | (simp [cd_appeal, t_k_3_0, hvP, hix, hvW, hkx, hIn]; done) | (simp_all [cd_appeal]; done)
              exact ⟨Or.inr (⟨hc, rfl⟩), rfl⟩) (by decide) (by decide)
          · rcases hw_k_3 with ⟨h_k_3_0, hu_k_3⟩
            rw [hu_k_3] at hH
            have hIn : B 2 i = 0 := (h212 i hi).symm.trans h_k_3_0
            refine lv_aload hx hb dX5_appeal_17 (lv_at hl 0 rfl) ?_
            refine z_get (C := RX0) (T := TX0) (N := 4) (ci := 0) (index := 76) (v := .int (zI w 3 (ad 4 (50 * i + k)))) hx hb hts hi0 hown hA hH (zk0 k_e (by decide)) (zE_k1 k_e) rfl 3 (by decide) (hts (.fieldLink RX5 76 "ParoleCards$Offence" "appealed" "Z") (by decide +kernel)) (fun _ h9 => h9) rfl dX5_appeal_19 ?_
            refine lv_if_eq (tgt := 35) hx hb dX5_appeal_22 (by decide) (fun c_4 => ?_) (fun c_4 => ?_)
            · have hz : B 20 (50 * i + k) = 0 := i3.symm.trans c_4
              refine lv_aload_n hx hb dX5_appeal_35 rfl (lv_at hl 1 rfl) ?_
              refine lv_aload hx hb dX5_appeal_36 (lv_at hl 0 rfl) ?_
              refine z_callv (va_runV (As := [.ref (ad 4 (50 * i + k))]) (rest := []) ⟨hx, hb, hml, hown, hts⟩ (c2_appeal l D cy base w (ad 0 i) (ad 4 (50 * i + k)) k_p k_e) (cwV 1 hts gX5_appeal_X2_appealOffence rfl rfl rfl (by decide +kernel) ⟨Nat.le_of_ble_eq_true rfl, Nat.le_of_ble_eq_true rfl⟩) (z_preV hA hS hH (z_recv hA hH (zk0 k_p (by decide)) (zE_k3 k_p) (q := (RX2, TX2, 14)) rfl)) rfl rfl hl.1 rfl (lv_room (Nat.le_of_ble_eq_true rfl)) dX5_appeal_38 ⟨Nat.le_of_ble_eq_true rfl, Nat.le_of_ble_eq_true rfl⟩) hS (fun u_k_5 H locs hw_k_5 hH hz_k_5 hS => ?_)
              rcases hw_k_5 with ⟨h_k_5_0, hu_k_5⟩ | ⟨h_k_5_0, hu_k_5⟩
              · rw [hu_k_5] at hH
                refine lv_aload_n hx hb dX5_appeal_41 rfl (lv_at hl 1 rfl) ?_
                refine z_calli (va_runV (As := []) (rest := []) ⟨hx, hb, hml, hown, hts⟩ (c2_releaseDay l D cy base (zsI (zsI w 3 (ad 4 (50 * i + k)) 1) 209 (ad 0 i) ((zI w 209 (ad 0 i)) - (zI w 1 (ad 4 (50 * i + k))))) (ad 0 i) k_p) (cwV 0 hts gX5_appeal_X2_releaseDay rfl rfl rfl (by decide +kernel) ⟨Nat.le_of_ble_eq_true rfl, Nat.le_of_ble_eq_true rfl⟩) (z_preV hA hS hH (z_recv hA hH (zk0 k_p (by decide)) (zE_k3 k_p) (q := (RX2, TX2, 14)) rfl)) rfl rfl hl.1 rfl (lv_room (Nat.le_of_ble_eq_true rfl)) dX5_appeal_42 ⟨Nat.le_of_ble_eq_true rfl, Nat.le_of_ble_eq_true rfl⟩) hS (fun r_k_6 u_k_6 H locs hw_k_6 hH hz_k_6 hS => ?_)
                rcases hw_k_6 with ⟨h_k_6_0, rfl, hu_k_6⟩ | ⟨h_k_6_0, rfl, hu_k_6⟩
                · rw [hu_k_6] at hH
                  refine vx_ret ?_
                  exact z_iret hx hb hr hlocks hH hS (by
                    have hc : (cd_appeal B (nI i) (nI k)) = 0 := by first | (simp [cd_appeal, h_k_3_0, c_4, h_k_5_0, h_k_6_0, hvP, hix, hvW, hkx, hIn, hz]; done) | (simp_all [cd_appeal]; done)
                    have h19 : B 19 (50 * i + k) = 0 := i2.symm.trans h_k_5_0
                    have hu : up_appeal B (nI i) (nI k) = z2 B 20 (50 * i + k) 1 := by unfold up_appeal; rw [hix, hkx, if_pos h19]
                    have hR2 := ra_appeal hR hinv hi hk hz
                    refine ⟨hc, ?_, ⟨ad, by rw [hu]; exact hR2⟩, (cI (k := 3) (cI (k := 1) (cFr_rf _) k_e (by decide)) k_p (by decide))⟩
                    exact absurd ((h212 i hi).trans hIn) h_k_6_0) (by decide) (by decide) dX5_appeal_45
                · rw [hu_k_6] at hH
                  refine vx_ret ?_
                  exact z_iret hx hb hr hlocks hH hS (by
                    have hc : (cd_appeal B (nI i) (nI k)) = 0 := by first | (simp [cd_appeal, h_k_3_0, c_4, h_k_5_0, h_k_6_0, hvP, hix, hvW, hkx, hIn, hz]; done) | (simp_all [cd_appeal]; done)
                    have h19 : B 19 (50 * i + k) = 0 := i2.symm.trans h_k_5_0
                    have hu : up_appeal B (nI i) (nI k) = z2 B 20 (50 * i + k) 1 := by unfold up_appeal; rw [hix, hkx, if_pos h19]
                    have hR2 := ra_appeal hR hinv hi hk hz
                    refine ⟨hc, ?_, ⟨ad, by rw [hu]; exact hR2⟩, (cI (k := 3) (cI (k := 1) (cFr_rf _) k_e (by decide)) k_p (by decide))⟩
                    show _ = sRel (up_appeal B (nI i) (nI k)) (ix (nI i))
                    rw [hix, hu]
                    exact (rel_of hR2 hi).1 hIn) (by decide) (by decide) dX5_appeal_45
              · rw [hu_k_5] at hH
                refine lv_aload_n hx hb dX5_appeal_41 rfl (lv_at hl 1 rfl) ?_
                refine z_calli (va_runV (As := []) (rest := []) ⟨hx, hb, hml, hown, hts⟩ (c2_releaseDay l D cy base (zsI (zsI (zsI w 3 (ad 4 (50 * i + k)) 1) 209 (ad 0 i) ((zI w 209 (ad 0 i)) - (zI w 1 (ad 4 (50 * i + k))))) 203 (ad 0 i) (if 2 < ((zI w 203 (ad 0 i)) + 1) then 2 else ((zI w 203 (ad 0 i)) + 1))) (ad 0 i) k_p) (cwV 0 hts gX5_appeal_X2_releaseDay rfl rfl rfl (by decide +kernel) ⟨Nat.le_of_ble_eq_true rfl, Nat.le_of_ble_eq_true rfl⟩) (z_preV hA hS hH (z_recv hA hH (zk0 k_p (by decide)) (zE_k3 k_p) (q := (RX2, TX2, 14)) rfl)) rfl rfl hl.1 rfl (lv_room (Nat.le_of_ble_eq_true rfl)) dX5_appeal_42 ⟨Nat.le_of_ble_eq_true rfl, Nat.le_of_ble_eq_true rfl⟩) hS (fun r_k_7 u_k_7 H locs hw_k_7 hH hz_k_7 hS => ?_)
                rcases hw_k_7 with ⟨h_k_7_0, rfl, hu_k_7⟩ | ⟨h_k_7_0, rfl, hu_k_7⟩
                · rw [hu_k_7] at hH
                  refine vx_ret ?_
                  exact z_iret hx hb hr hlocks hH hS (by
                    have hc : (cd_appeal B (nI i) (nI k)) = 0 := by first | (simp [cd_appeal, h_k_3_0, c_4, h_k_5_0, h_k_7_0, hvP, hix, hvW, hkx, hIn, hz]; done) | (simp_all [cd_appeal]; done)
                    have h19 : ¬ B 19 (50 * i + k) = 0 := fun z => h_k_5_0 (i2.trans z)
                    have hu : up_appeal B (nI i) (nI k) = sRaise (z2 B 20 (50 * i + k) 1) i := by unfold up_appeal; rw [hix, hkx, if_neg h19]
                    have hR2 := rw_raise (ra_appeal hR hinv hi hk hz) hinv2 hi
                    refine ⟨hc, ?_, ⟨ad, by rw [hu]; exact hR2⟩, (cI (k := 3) (cI (k := 3) (cI (k := 1) (cFr_rf _) k_e (by decide)) k_p (by decide)) k_p (by decide))⟩
                    exact absurd ((h212 i hi).trans hIn) h_k_7_0) (by decide) (by decide) dX5_appeal_45
                · rw [hu_k_7] at hH
                  refine vx_ret ?_
                  exact z_iret hx hb hr hlocks hH hS (by
                    have hc : (cd_appeal B (nI i) (nI k)) = 0 := by first | (simp [cd_appeal, h_k_3_0, c_4, h_k_5_0, h_k_7_0, hvP, hix, hvW, hkx, hIn, hz]; done) | (simp_all [cd_appeal]; done)
                    have h19 : ¬ B 19 (50 * i + k) = 0 := fun z => h_k_5_0 (i2.trans z)
                    have hu : up_appeal B (nI i) (nI k) = sRaise (z2 B 20 (50 * i + k) 1) i := by unfold up_appeal; rw [hix, hkx, if_neg h19]
                    have hR2 := rw_raise (ra_appeal hR hinv hi hk hz) hinv2 hi
                    refine ⟨hc, ?_, ⟨ad, by rw [hu]; exact hR2⟩, (cI (k := 3) (cI (k := 3) (cI (k := 1) (cFr_rf _) k_e (by decide)) k_p (by decide)) k_p (by decide))⟩
                    show _ = sRel (up_appeal B (nI i) (nI k)) (ix (nI i))
                    rw [hix, hu]
                    exact (rel_of hR2 hi).1 hIn) (by decide) (by decide) dX5_appeal_45
            · have hz : ¬ B 20 (50 * i + k) = 0 := fun z => c_4 (i3.trans z)
              exact z_throwS (cls := zIse) (text := "the offence was appealed") (is := 82) (ic := 40) (ik := 36) hx hb hl9 hown (by decide +kernel) (hts (.classLink RX5 36 "java/lang/IllegalStateException") (by decide +kernel)) (hts (.initialized "java/lang/IllegalStateException") (by decide +kernel)) hA (by decide +kernel) (fun w9 h9 => hts w9 (hat_40 w9 h9)) (by decide +kernel) (by decide +kernel) hH hS (hl.1.trans hml.symm) dX5_appeal_25 dX5_appeal_28 dX5_appeal_29 dX5_appeal_31 dX5_appeal_34 htab (Nat.le_of_ble_eq_true rfl) (Nat.le_of_ble_eq_true rfl) (Nat.le_of_ble_eq_true rfl) (Nat.le_of_ble_eq_true rfl) hlocks (by
                have hc : (cd_appeal B (nI i) (nI k)) = 2 := by first | (simp [cd_appeal, h_k_3_0, c_4, hvP, hix, hvW, hkx, hIn, hz]; done) | (simp_all [cd_appeal]; done)
                exact ⟨Or.inr (⟨hc, rfl⟩), rfl⟩) (by decide) (by decide)
    · have hno4 : ∀ k, k < 50 → which = nI k → zQ w (ad 3 i) k = none := by
        intro k hk e
        rw [hOq i hi k hk]
        by_cases c9 : k < oc B i
        · have t := (vLies_nat (v := which) (n := oc B i) (by omega)).mpr ⟨k, c9, e⟩
          rw [← h10, hvW] at t; exact absurd t (by decide)
        · rw [if_neg c9]
      refine lv_aload_n hx hb dX5_appeal_0 rfl (lv_at hl 0 rfl) ?_
      refine lv_iload_n hx hb dX5_appeal_1 rfl (lv_at hl 1 rfl) ?_
      refine z_xcallr (vx_runV (As := [.int (nI i)]) (rest := []) ⟨hx, hb, hml, hown, hts⟩ (c5_findPerson_t l hl9 D cy base w x i (ad 7 0) (ad 0 i) k_x p500 k_A n_A q_i hi10) (cwV 1 hts gX5_appeal_X5_findPerson rfl rfl rfl (by decide +kernel) ⟨Nat.le_of_ble_eq_true rfl, Nat.le_of_ble_eq_true rfl⟩) (z_preV hA hS hH (z_recv hA hH (zk0 k_x (by decide)) (zE_k6 k_x) (q := (RX5, TX5, 6)) rfl)) rfl rfl hl.1 rfl (lv_room (Nat.le_of_ble_eq_true rfl)) dX5_appeal_2 ⟨Nat.le_of_ble_eq_true rfl, Nat.le_of_ble_eq_true rfl⟩) hS (fun E_k_8 ce_k_8 q9_k_8 u_k_8 H locs hw_k_8 hH hz_k_8 hS hce_k_8 hv_k_8 hcl_k_8 => ?_) (fun r_k_8 u_k_8 H locs hw_k_8 hH hz_k_8 hS => ?_)
      · exact hw_k_8.elim
      · rcases hw_k_8 with ⟨rfl, hu_k_8⟩
        rw [hu_k_8] at hH
        refine lv_astore_n (lv' := [(3, .ref (ad 0 i)), (0, .ref x), (1, .int (nI i)), (2, .int which)]) hx hb dX5_appeal_5 rfl hl (by decide) rfl (fun ls hl => ?_)
        refine lv_aload_n hx hb dX5_appeal_6 rfl (lv_at hl 0 rfl) ?_
        refine lv_iload_n hx hb dX5_appeal_7 rfl (lv_at hl 3 rfl) ?_
        refine z_xcallr (vx_runS (As := [.ref (ad 0 i), .int which]) (rest := []) ⟨hx, hb, hml, hown, hts⟩ (c5_findOffence_f l hl9 D cy base w (ad 0 i) which (ad 3 i) k_p p207 k_f n_f hno4) (va_cwS 2 hts gX5_appeal_X5_findOffence rfl rfl rfl (by decide +kernel) ⟨Nat.le_of_ble_eq_true rfl, Nat.le_of_ble_eq_true rfl⟩) (z_preS hA hS hH) rfl rfl hl.1 rfl (lv_room (Nat.le_of_ble_eq_true rfl)) dX5_appeal_8 ⟨Nat.le_of_ble_eq_true rfl, Nat.le_of_ble_eq_true rfl⟩) hS (fun E_k_9 ce_k_9 q9_k_9 u_k_9 H locs hw_k_9 hH hz_k_9 hS hce_k_9 hv_k_9 hcl_k_9 => ?_) (fun r_k_9 u_k_9 H locs hw_k_9 hH hz_k_9 hS => ?_)
        · obtain ⟨rfl, hu_k_9⟩ := hw_k_9
          rw [hu_k_9] at hH
          exact z_out htab hlocks hH hS hce_k_9 hv_k_9 hcl_k_9 (by
            have hc : (cd_appeal B (nI i) which) = 1 := by first | (simp [cd_appeal, hvP, hix, hvW]; done) | (simp_all [cd_appeal]; done)
            exact ⟨Or.inl (⟨hc, rfl⟩), rfl⟩) (by decide) (by decide)
        · exact hw_k_9.elim
  · have hno := vP_no hinv hvP qA
    refine lv_aload_n hx hb dX5_appeal_0 rfl (lv_at hl 0 rfl) ?_
    refine lv_iload_n hx hb dX5_appeal_1 rfl (lv_at hl 1 rfl) ?_
    refine z_xcallr (vx_runV (As := [.int its]) (rest := []) ⟨hx, hb, hml, hown, hts⟩ (c5_findPerson_f l hl9 D cy base w x its (ad 7 0) k_x p500 k_A n_A hno) (cwV 1 hts gX5_appeal_X5_findPerson rfl rfl rfl (by decide +kernel) ⟨Nat.le_of_ble_eq_true rfl, Nat.le_of_ble_eq_true rfl⟩) (z_preV hA hS hH (z_recv hA hH (zk0 k_x (by decide)) (zE_k6 k_x) (q := (RX5, TX5, 6)) rfl)) rfl rfl hl.1 rfl (lv_room (Nat.le_of_ble_eq_true rfl)) dX5_appeal_2 ⟨Nat.le_of_ble_eq_true rfl, Nat.le_of_ble_eq_true rfl⟩) hS (fun E_k_10 ce_k_10 q9_k_10 u_k_10 H locs hw_k_10 hH hz_k_10 hS hce_k_10 hv_k_10 hcl_k_10 => ?_) (fun r_k_10 u_k_10 H locs hw_k_10 hH hz_k_10 hS => ?_)
    · obtain ⟨rfl, hu_k_10⟩ := hw_k_10
      rw [hu_k_10] at hH
      exact z_out htab hlocks hH hS hce_k_10 hv_k_10 hcl_k_10 (by
        have hc : (cd_appeal B its which) = 1 := by first | (simp [cd_appeal, hvP]; done) | (simp_all [cd_appeal]; done)
        exact ⟨Or.inl (⟨hc, rfl⟩), rfl⟩) (by decide) (by decide)
    · exact hw_k_10.elim
set_option maxHeartbeats 4000000 in
set_option maxRecDepth 100000 in
theorem c5_buy (l : Launch) (hl9 : l.stackTraces = false) (D : va_G) (cy : Nat → ClassId) (base : Nat) (w : zW) (x : Nat) (ad : Nat → Nat → Nat) (B : mB) (its : Int32) (a : Int32) (hR : rAll w x ad B) (hinv : mInv B) (hinv2 : mInv2 B) : vx_Met l yX5_buy wsX5_buy ({ frames := 7, cells := 6, slots := 70, locals := 112 }) (zPc D cy base (zH D cy base) [.ref x, .int its, .int a] w) (zQi base (zH D cy base) (fun (r0 : Int32) (u0 : zW) => (cd_buy B its a) = 0 ∧ r0 = (an_buy B its a) ∧ Rep u0 x (up_buy B its a) ∧ cFr w u0)) (zXC base (zH D cy base) (fun (E : String) (u0 : zW) => thr3 (cd_buy B its a) E ∧ u0 = w)) 6 70 (fun q => base ≤ q) := by
  refine vx_ofW (cc := cX5_buy) (maxL := 5) (ret := (some .int)) (by decide) rfl ?_
  intro p e s m args below meth c s₁ B9 hml htab hv
  obtain ⟨rfl, hA, hH⟩ := hv
  have hx := B9.exec
  have hb := B9.bytes
  have hr := B9.returns
  have hts := atoms_spec (ws := wsX5_buy) B9.pre
  have hown : s.vm.findClass RX5 = some m.cls := findClass_of_methodNamed B9.named
  have hlocks := B9.notSynchronized
  have hi2 : ∀ w ∈ wsX20, w ∈ wsX5_buy := by decide +kernel
  have hi3 : ∀ w ∈ wsX30, w ∈ wsX5_buy := by decide +kernel
  have hi5 : ∀ w ∈ wsX50, w ∈ wsX5_buy := by decide +kernel
  have hat_40 : ∀ w ∈ (vx_atS RX5 40 zIse zUp).filter goodWord, w ∈ wsX5_buy := fun _ h => by first | exact List.mem_cons_of_mem _ (List.mem_append_right _ h) | exact List.mem_cons_of_mem _ (List.mem_append_left _ (List.mem_append_right _ h)) | exact List.mem_cons_of_mem _ (List.mem_append_left _ (List.mem_append_left _ (List.mem_append_right _ h)))
  have hS : va_S (fun q : Nat => base ≤ q) s.heap s.heap [] := va_S.rf
  have hl := lv_entry ([.ref x, .int its, .int a]) (n := 5) (Nat.le_of_ble_eq_true rfl)
  rw [lg_entry_eq]
  generalize (lg_sl ([.ref x, .int its, .int a]) ++ List.replicate (5 - (lg_sl ([.ref x, .int its, .int a])).length) Slot.unset).toArray = ls at hl ⊢
  have hl : lv_has ls 5 [(0, .ref x), (1, .int its), (2, .int a)] := hl
  have hR9 := hR
  obtain ⟨⟨⟨k_x, i503, i504, i505⟩, ⟨p500, p501, p502⟩, k_A, n_A, k_O, n_O, k_T, n_T⟩, ⟨qA, qO, qT⟩, hTool, hPk, ⟨h200, h201, h202, h203, h204, h205, h206, h208, h209, h212, h213⟩, hPo, ⟨h301, h302, h303, hAc⟩, ⟨hOq, hOf⟩, hOr, hInj⟩ := hR9
  rcases vP_split hinv its with ⟨i, rfl, hi, hi10, hvP, hix⟩ | hvP
  · have q_i : zQ w (ad 7 0) i = some (ad 0 i) := by rw [qA i hi10, if_pos hi]
    obtain ⟨k_p, p207, p211, k_f, n_f, k_q, p300, k_r, n_r⟩ := hPk i hi
    have hoff : ∀ k, k < 50 → ∀ e9, zQ w (ad 3 i) k = some e9 → zK w e9 = 1 := by
      intro k hk e9 he
      rw [hOq i hi k hk] at he
      by_cases c9 : k < oc B i
      · rw [if_pos c9] at he; cases he; exact (hOf i hi k c9).1
      · rw [if_neg c9] at he; cases he
    refine lv_aload_n hx hb dX5_buy_0 rfl (lv_at hl 0 rfl) ?_
    refine lv_iload_n hx hb dX5_buy_1 rfl (lv_at hl 1 rfl) ?_
    refine z_xcallr (vx_runV (As := [.int (nI i)]) (rest := []) ⟨hx, hb, hml, hown, hts⟩ (c5_findPerson_t l hl9 D cy base w x i (ad 7 0) (ad 0 i) k_x p500 k_A n_A q_i hi10) (cwV 1 hts gX5_buy_X5_findPerson rfl rfl rfl (by decide +kernel) ⟨Nat.le_of_ble_eq_true rfl, Nat.le_of_ble_eq_true rfl⟩) (z_preV hA hS hH (z_recv hA hH (zk0 k_x (by decide)) (zE_k6 k_x) (q := (RX5, TX5, 6)) rfl)) rfl rfl hl.1 rfl (lv_room (Nat.le_of_ble_eq_true rfl)) dX5_buy_2 ⟨Nat.le_of_ble_eq_true rfl, Nat.le_of_ble_eq_true rfl⟩) hS (fun E_k_1 ce_k_1 q9_k_1 u_k_1 H locs hw_k_1 hH hz_k_1 hS hce_k_1 hv_k_1 hcl_k_1 => ?_) (fun r_k_1 u_k_1 H locs hw_k_1 hH hz_k_1 hS => ?_)
    · exact hw_k_1.elim
    · rcases hw_k_1 with ⟨rfl, hu_k_1⟩
      rw [hu_k_1] at hH
      refine lv_astore_n (lv' := [(3, .ref (ad 0 i)), (0, .ref x), (1, .int (nI i)), (2, .int a)]) hx hb dX5_buy_5 rfl hl (by decide) rfl (fun ls hl => ?_)
      refine lv_iload_n hx hb dX5_buy_6 rfl (lv_at hl 3 rfl) ?_
      refine lv_iconst (v := 1) hx hb dX5_buy_7 (by decide) ?_
      refine lv_sipush (v := 1000) hx hb dX5_buy_8 (by decide) ?_
      refine z_xcallv (vx_runS (As := [.int a, .int 1, .int 1000]) (rest := []) ⟨hx, hb, hml, hown, hts⟩ (c5_checkRange l hl9 D cy base w a 1 1000 ) (va_cwS 3 hts gX5_buy_X5_checkRange rfl rfl rfl (by decide +kernel) ⟨Nat.le_of_ble_eq_true rfl, Nat.le_of_ble_eq_true rfl⟩) (z_preS hA hS hH) rfl rfl hl.1 rfl (lv_room (Nat.le_of_ble_eq_true rfl)) dX5_buy_11 ⟨Nat.le_of_ble_eq_true rfl, Nat.le_of_ble_eq_true rfl⟩) hS (fun E_k_2 ce_k_2 q9_k_2 u_k_2 H locs hw_k_2 hH hz_k_2 hS hce_k_2 hv_k_2 hcl_k_2 => ?_) (fun u_k_2 H locs hw_k_2 hH hz_k_2 hS => ?_)
      · obtain ⟨t_k_2_0, rfl, hu_k_2⟩ := hw_k_2
        rw [hu_k_2] at hH
        exact z_out htab hlocks hH hS hce_k_2 hv_k_2 hcl_k_2 (by
          have hc : (cd_buy B (nI i) a) = 2 := by first | (simp [cd_buy, t_k_2_0, hvP, hix]; done) | (simp_all [cd_buy]; done)
          exact ⟨Or.inr (Or.inl (⟨hc, rfl⟩)), rfl⟩) (by decide) (by decide)
      · rcases hw_k_2 with ⟨h_k_2_0, hu_k_2⟩
        rw [hu_k_2] at hH
        refine lv_aload_n hx hb dX5_buy_14 rfl (lv_at hl 0 rfl) ?_
        refine z_xcallv (vx_runS (As := [.ref (ad 0 i)]) (rest := []) ⟨hx, hb, hml, hown, hts⟩ (c5_checkIn l hl9 D cy base w (ad 0 i) k_p) (va_cwS 1 hts gX5_buy_X5_checkIn rfl rfl rfl (by decide +kernel) ⟨Nat.le_of_ble_eq_true rfl, Nat.le_of_ble_eq_true rfl⟩) (z_preS hA hS hH) rfl rfl hl.1 rfl (lv_room (Nat.le_of_ble_eq_true rfl)) dX5_buy_15 ⟨Nat.le_of_ble_eq_true rfl, Nat.le_of_ble_eq_true rfl⟩) hS (fun E_k_3 ce_k_3 q9_k_3 u_k_3 H locs hw_k_3 hH hz_k_3 hS hce_k_3 hv_k_3 hcl_k_3 => ?_) (fun u_k_3 H locs hw_k_3 hH hz_k_3 hS => ?_)
        · obtain ⟨t_k_3_0, rfl, hu_k_3⟩ := hw_k_3
          rw [hu_k_3] at hH
          have hIn : ¬ B 2 i = 0 := fun z => t_k_3_0 ((h212 i hi).trans z)
          exact z_out htab hlocks hH hS hce_k_3 hv_k_3 hcl_k_3 (by
            have hc : (cd_buy B (nI i) a) = 3 := by first | (simp [cd_buy, h_k_2_0, t_k_3_0, hvP, hix, hIn]; done) | (simp_all [cd_buy]; done)
            exact ⟨Or.inr (Or.inr (⟨hc, rfl⟩)), rfl⟩) (by decide) (by decide)
        · rcases hw_k_3 with ⟨h_k_3_0, hu_k_3⟩
          rw [hu_k_3] at hH
          have hIn : B 2 i = 0 := (h212 i hi).symm.trans h_k_3_0
          refine lv_aload_n hx hb dX5_buy_18 rfl (lv_at hl 0 rfl) ?_
          refine z_get (C := RX2) (T := TX2) (N := 14) (ci := 2) (index := 166) (v := .ref (ad 1 i)) hx hb hts hi2 hown hA hH (zk0 k_p (by decide)) (zE_k3 k_p) rfl 11 (by decide) (hts (.fieldLink RX5 166 "ParoleCards$Person" "purse" "LParoleCards$Purse;") (by decide +kernel)) (fun _ h9 => h9) (congrArg (fun z => some (va_rf z)) p211) dX5_buy_19 ?_
          refine lv_astore (lv' := [(4, .ref (ad 1 i)), (3, .ref (ad 0 i)), (0, .ref x), (1, .int (nI i)), (2, .int a)]) hx hb dX5_buy_22 hl (by decide) rfl (fun ls hl => ?_)
          refine lv_aload hx hb dX5_buy_24 (lv_at hl 0 rfl) ?_
          refine z_get (C := RX3) (T := TX3) (N := 4) (ci := 3) (index := 170) (v := .ref (ad 2 i)) hx hb hts hi3 hown hA hH (zk0 k_q (by decide)) (zE_k4 k_q) rfl 0 (by decide) (hts (.fieldLink RX5 170 "ParoleCards$Purse" "accounts" "[I") (by decide +kernel)) (fun _ h9 => h9) (congrArg (fun z => some (va_rf z)) p300) dX5_buy_26 ?_
          refine lv_iconst (v := 3) hx hb dX5_buy_29 (by decide) ?_
          refine z_iald (v := (zR w (ad 2 i) 3)) hx hb hA hH (zk0 k_r (by decide)) (zEn (zE_k15 k_r) n_r) 3 rfl (by omega) (by decide) rfl dX5_buy_30 ?_
          refine lv_iload_n hx hb dX5_buy_31 rfl (lv_at hl 4 rfl) ?_
          refine lv_icmp_ge (tgt := 45) hx hb dX5_buy_32 (by decide) (fun c_4 => ?_) (fun c_4 => ?_)
          · have hC : a ≤ B 14 (4 * i + 3) := by rw [← hAc i hi 3 (by decide)]; exact c_4
            refine lv_aload_n hx hb dX5_buy_45 rfl (lv_at hl 1 rfl) ?_
            refine lv_aload_n hx hb dX5_buy_46 rfl (lv_at hl 2 rfl) ?_
            refine z_get (C := RX5) (T := TX5) (N := 6) (ci := 5) (index := 43) (v := .int (zI w 505 x)) hx hb hts hi5 hown hA hH (zk0 k_x (by decide)) (zE_k6 k_x) rfl 5 (by decide) (hts (.fieldLink RX5 43 "ParoleCards" "today" "I") (by decide +kernel)) (fun _ h9 => h9) rfl dX5_buy_47 ?_
            refine z_calli (va_runV (As := [.int (zI w 505 x)]) (rest := []) ⟨hx, hb, hml, hown, hts⟩ (c2_mayStillBuy l D cy base w (ad 0 i) (zI w 505 x) (ad 3 i) (ad 1 i) k_p p207 k_f n_f p211 k_q hoff) (cwV 1 hts gX5_buy_X2_mayStillBuy rfl rfl rfl (by decide +kernel) ⟨Nat.le_of_ble_eq_true rfl, Nat.le_of_ble_eq_true rfl⟩) (z_preV hA hS hH (z_recv hA hH (zk0 k_p (by decide)) (zE_k3 k_p) (q := (RX2, TX2, 14)) rfl)) rfl rfl hl.1 rfl (lv_room (Nat.le_of_ble_eq_true rfl)) dX5_buy_50 ⟨Nat.le_of_ble_eq_true rfl, Nat.le_of_ble_eq_true rfl⟩) hS (fun r_k_5 u_k_5 H locs hw_k_5 hH hz_k_5 hS => ?_)
            rcases hw_k_5 with ⟨h_k_5_0, rfl, hu_k_5⟩ | ⟨h_k_5_0, rfl, hu_k_5⟩
            · rw [hu_k_5] at hH
              have hOut : ¬ B 2 i = 0 := fun z => h_k_5_0 ((h212 i hi).trans z)
              have hM := (may_eq hR hinv hinv2 hi).1 hOut
              exact absurd hIn hOut
            · rw [hu_k_5] at hH
              have hIn2 : B 2 i = 0 := (h212 i hi).symm.trans h_k_5_0
              have hM := (may_eq hR hinv hinv2 hi).2 hIn2
              rw [i505, hM]
              refine lv_iload_n hx hb dX5_buy_53 rfl (lv_at hl 4 rfl) ?_
              refine lv_icmp_ge (tgt := 67) hx hb dX5_buy_54 (by decide) (fun c_6 => ?_) (fun c_6 => ?_)
              · refine lv_aload hx hb dX5_buy_67 (lv_at hl 0 rfl) ?_
                refine lv_iload_n hx hb dX5_buy_69 rfl (lv_at hl 4 rfl) ?_
                refine lv_aload_n hx hb dX5_buy_70 rfl (lv_at hl 2 rfl) ?_
                refine z_get (C := RX5) (T := TX5) (N := 6) (ci := 5) (index := 43) (v := .int (zI w 505 x)) hx hb hts hi5 hown hA hH (zk0 k_x (by decide)) (zE_k6 k_x) rfl 5 (by decide) (hts (.fieldLink RX5 43 "ParoleCards" "today" "I") (by decide +kernel)) (fun _ h9 => h9) rfl dX5_buy_71 ?_
                refine lv_bipush (v := 7) hx hb dX5_buy_74 (by decide) ?_
                refine lv_idiv hx hb dX5_buy_76 (by decide) ?_
                refine z_callv (va_runV (As := [.int a, .int ((zI w 505 x) / 7)]) (rest := []) ⟨hx, hb, hml, hown, hts⟩ (c3_spend l D cy base w (ad 1 i) (ad 2 i) a ((zI w 505 x) / 7) k_q p300 k_r n_r) (cwV 2 hts gX5_buy_X3_spend rfl rfl rfl (by decide +kernel) ⟨Nat.le_of_ble_eq_true rfl, Nat.le_of_ble_eq_true rfl⟩) (z_preV hA hS hH (z_recv hA hH (zk0 k_q (by decide)) (zE_k4 k_q) (q := (RX3, TX3, 4)) rfl)) rfl rfl hl.1 rfl (lv_room (Nat.le_of_ble_eq_true rfl)) dX5_buy_77 ⟨Nat.le_of_ble_eq_true rfl, Nat.le_of_ble_eq_true rfl⟩) hS (fun u_k_7 H locs hw_k_7 hH hz_k_7 hS => ?_)
                have hu_k_7 := hw_k_7
                rw [hu_k_7] at hH
                refine lv_aload hx hb dX5_buy_80 (lv_at hl 0 rfl) ?_
                refine z_get (C := RX3) (T := TX3) (N := 4) (ci := 3) (index := 170) (v := .ref (ad 2 i)) hx hb hts hi3 hown hA hH (zk0 k_q (by decide)) (zE_k4 k_q) rfl 0 (by decide) (hts (.fieldLink RX5 170 "ParoleCards$Purse" "accounts" "[I") (by decide +kernel)) (fun _ h9 => h9) (congrArg (fun z => some (va_rf z)) p300) dX5_buy_82 ?_
                refine lv_iconst (v := 3) hx hb dX5_buy_85 (by decide) ?_
                refine z_iald (v := ((zR w (ad 2 i) 3) - a)) hx hb hA hH (zk0 k_r (by decide)) (zEn (zE_k15 k_r) n_r) 3 rfl (by omega) (by decide) (by simp [zR, zsR, zsI, zsP, z2, va_up]) dX5_buy_86 ?_
                refine vx_ret ?_
                exact z_iret hx hb hr hlocks hH hS (by
                  have hc : (cd_buy B (nI i) a) = 0 := by first | (simp [cd_buy, h_k_2_0, h_k_3_0, c_4, Int32.not_lt.mpr c_4, h_k_5_0, c_6, Int32.not_lt.mpr c_6, hvP, hix, hIn, hC]; done) | (simp_all [cd_buy]; done)
                  refine ⟨hc, ?_, ?_⟩
                  · show _ = B 14 (4 * ix (nI i) + 3) - a
                    rw [hix, ← hAc i hi 3 (by decide)]
                  · have e1 : (if (zI w 505 x) / 7 = (zI w 301 (ad 1 i)) then (zI w 302 (ad 1 i)) else 0) = sBought B i := by
                      rw [i505, h301 i hi, h302 i hi]; unfold sBought
                      by_cases c9 : B 0 0 / 7 = B 15 i
                      · rw [if_pos c9, if_pos c9.symm]
                      · rw [if_neg c9, if_neg (fun z => c9 z.symm)]
                    have hu : up_buy B (nI i) a = z2 (z2 (z2 B 16 i ((if ((zI w 505 x) / 7) = (zI w 301 (ad 1 i)) then (zI w 302 (ad 1 i)) else 0) + a)) 15 i ((zI w 505 x) / 7)) 14 (4 * i + 3) ((zR w (ad 2 i) 3) - a) := by unfold up_buy; rw [hix, e1, i505, hAc i hi 3 (by decide)]
                    rw [hu]
                    exact ⟨⟨ad, ra_R (ra_301 (ra_302 hR hi _) hi _) hi (by decide) _⟩, (cR (k := 15) (cI (k := 4) (cI (k := 4) (cFr_rf _) k_q (by decide)) k_q (by decide)) k_r (by decide))⟩) (by decide) (by decide) dX5_buy_87
              · exact z_throwS (cls := zIse) (text := "it would be more than the limit") (is := 187) (ic := 40) (ik := 36) hx hb hl9 hown (by decide +kernel) (hts (.classLink RX5 36 "java/lang/IllegalStateException") (by decide +kernel)) (hts (.initialized "java/lang/IllegalStateException") (by decide +kernel)) hA (by decide +kernel) (fun w9 h9 => hts w9 (hat_40 w9 h9)) (by decide +kernel) (by decide +kernel) hH hS (hl.1.trans hml.symm) dX5_buy_57 dX5_buy_60 dX5_buy_61 dX5_buy_63 dX5_buy_66 htab (Nat.le_of_ble_eq_true rfl) (Nat.le_of_ble_eq_true rfl) (Nat.le_of_ble_eq_true rfl) (Nat.le_of_ble_eq_true rfl) hlocks (by
                  have hc : (cd_buy B (nI i) a) = 3 := by first | (simp [cd_buy, h_k_2_0, h_k_3_0, c_4, Int32.not_lt.mpr c_4, h_k_5_0, c_6, Int32.not_le.mp c_6, hvP, hix, hIn, hC]; done) | (simp_all [cd_buy]; done)
                  exact ⟨Or.inr (Or.inr (⟨hc, rfl⟩)), rfl⟩) (by decide) (by decide)
          · have hC : ¬ a ≤ B 14 (4 * i + 3) := by rw [← hAc i hi 3 (by decide)]; exact c_4
            exact z_throwS (cls := zIse) (text := "the account has less") (is := 181) (ic := 40) (ik := 36) hx hb hl9 hown (by decide +kernel) (hts (.classLink RX5 36 "java/lang/IllegalStateException") (by decide +kernel)) (hts (.initialized "java/lang/IllegalStateException") (by decide +kernel)) hA (by decide +kernel) (fun w9 h9 => hts w9 (hat_40 w9 h9)) (by decide +kernel) (by decide +kernel) hH hS (hl.1.trans hml.symm) dX5_buy_35 dX5_buy_38 dX5_buy_39 dX5_buy_41 dX5_buy_44 htab (Nat.le_of_ble_eq_true rfl) (Nat.le_of_ble_eq_true rfl) (Nat.le_of_ble_eq_true rfl) (Nat.le_of_ble_eq_true rfl) hlocks (by
              have hc : (cd_buy B (nI i) a) = 3 := by first | (simp [cd_buy, h_k_2_0, h_k_3_0, c_4, Int32.not_le.mp c_4, hvP, hix, hIn, hC]; done) | (simp_all [cd_buy]; done)
              exact ⟨Or.inr (Or.inr (⟨hc, rfl⟩)), rfl⟩) (by decide) (by decide)
  · have hno := vP_no hinv hvP qA
    refine lv_aload_n hx hb dX5_buy_0 rfl (lv_at hl 0 rfl) ?_
    refine lv_iload_n hx hb dX5_buy_1 rfl (lv_at hl 1 rfl) ?_
    refine z_xcallr (vx_runV (As := [.int its]) (rest := []) ⟨hx, hb, hml, hown, hts⟩ (c5_findPerson_f l hl9 D cy base w x its (ad 7 0) k_x p500 k_A n_A hno) (cwV 1 hts gX5_buy_X5_findPerson rfl rfl rfl (by decide +kernel) ⟨Nat.le_of_ble_eq_true rfl, Nat.le_of_ble_eq_true rfl⟩) (z_preV hA hS hH (z_recv hA hH (zk0 k_x (by decide)) (zE_k6 k_x) (q := (RX5, TX5, 6)) rfl)) rfl rfl hl.1 rfl (lv_room (Nat.le_of_ble_eq_true rfl)) dX5_buy_2 ⟨Nat.le_of_ble_eq_true rfl, Nat.le_of_ble_eq_true rfl⟩) hS (fun E_k_8 ce_k_8 q9_k_8 u_k_8 H locs hw_k_8 hH hz_k_8 hS hce_k_8 hv_k_8 hcl_k_8 => ?_) (fun r_k_8 u_k_8 H locs hw_k_8 hH hz_k_8 hS => ?_)
    · obtain ⟨rfl, hu_k_8⟩ := hw_k_8
      rw [hu_k_8] at hH
      exact z_out htab hlocks hH hS hce_k_8 hv_k_8 hcl_k_8 (by
        have hc : (cd_buy B its a) = 1 := by first | (simp [cd_buy, hvP]; done) | (simp_all [cd_buy]; done)
        exact ⟨Or.inl (⟨hc, rfl⟩), rfl⟩) (by decide) (by decide)
    · exact hw_k_8.elim
