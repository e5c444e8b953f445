/-- the limit of a person a with the offences fa on the day t, the first k looked at -/
def zMost (w : zW) (a fa : Nat) (t : Int32) : Nat → Int32
  | 0 => 20 * zI w 203 a + 10
  | k + 1 => match zQ w fa k with
    | none => zMost w a fa t k
    | some e9 => if zI w 3 e9 = 0 ∧ t - zI w 0 e9 ≤ 29 then zMost w a fa t k + (-5) else zMost w a fa t k
set_option maxHeartbeats 4000000 in
set_option maxRecDepth 100000 in
theorem c2_limitOfSpan (l : Launch) (D : va_G) (cy : Nat → ClassId) (base : Nat) (w : zW) (a : Nat) (t : Int32) (fa : Nat) (k_a : zK w a = 3) (p207_a : zP w 207 a = some fa) (k_fa : zK w fa = 10) (n_fa : zN w fa = 50) (hoff : ∀ k, k < 50 → ∀ e9, zQ w fa k = some e9 → zK w e9 = 1) : Met l yX2_limitOfSpan wsX2_limitOfSpan ({ frames := 1, cells := 0, slots := 0, locals := 30 }) (zPc D cy base (zH D cy base) [.ref a, .int t] w) (zQi base (zH D cy base) (fun (r0 : Int32) (u0 : zW) => r0 = (if (zMost w a fa t 50) < 0 then 0 else (zMost w a fa t 50)) ∧ u0 = w)) 0 0 (fun q => base ≤ q) := by
  refine Met.ofW (cc := cX2_limitOfSpan) (maxL := 7) (ret := (some .int)) (by decide) rfl ?_
  intro p e s m args below meth c s₁ B9 hml hv
  obtain ⟨rfl, hA, hH⟩ := hv
  have hx := B9.exec
  have hb := B9.bytes
  have hr := B9.returns
  have hts := atoms_spec (ws := wsX2_limitOfSpan) B9.pre
  have hown : s.vm.findClass RX2 = some m.cls := findClass_of_methodNamed B9.named
  have hlocks := B9.notSynchronized
  have hi2 : ∀ w ∈ wsX20, w ∈ wsX2_limitOfSpan := by decide +kernel
  have hS : va_S (fun q : Nat => base ≤ q) s.heap s.heap [] := va_S.rf
  have hl := lv_entry ([.ref a, .int t]) (n := 7) (Nat.le_of_ble_eq_true rfl)
  rw [lg_entry_eq]
  generalize (lg_sl ([.ref a, .int t]) ++ List.replicate (7 - (lg_sl ([.ref a, .int t])).length) Slot.unset).toArray = ls at hl ⊢
  have hl : lv_has ls 7 [(0, .ref a), (1, .int t)] := hl
  refine lv_bipush (v := 20) hx hb dX2_limitOfSpan_0 (by decide) ?_
  refine lv_aload_n hx hb dX2_limitOfSpan_2 rfl (lv_at hl 0 rfl) ?_
  refine z_get (C := RX2) (T := TX2) (N := 14) (ci := 2) (index := 9) (v := .int (zI w 203 a)) hx hb hts hi2 hown hA hH (zk0 k_a (by decide)) (zE_k3 k_a) rfl 3 (by decide) (hts (.fieldLink RX2 9 "ParoleCards$Person" "regimeNow" "I") (by decide +kernel)) (fun _ h9 => h9) rfl dX2_limitOfSpan_3 ?_
  refine lv_imul hx hb dX2_limitOfSpan_6 ?_
  refine lv_bipush (v := 10) hx hb dX2_limitOfSpan_7 (by decide) ?_
  refine lv_iadd hx hb dX2_limitOfSpan_9 ?_
  refine lv_istore_n (lv' := [(2, .int ((20 * (zI w 203 a)) + 10)), (0, .ref a), (1, .int t)]) hx hb dX2_limitOfSpan_10 rfl hl (by decide) rfl (fun ls hl => ?_)
  refine lv_aload_n hx hb dX2_limitOfSpan_11 rfl (lv_at hl 1 rfl) ?_
  refine z_get (C := RX2) (T := TX2) (N := 14) (ci := 2) (index := 17) (v := .ref fa) hx hb hts hi2 hown hA hH (zk0 k_a (by decide)) (zE_k3 k_a) rfl 7 (by decide) (hts (.fieldLink RX2 17 "ParoleCards$Person" "offences" "[LParoleCards$Offence;") (by decide +kernel)) (fun _ h9 => h9) (congrArg (fun z => some (va_rf z)) p207_a) dX2_limitOfSpan_12 ?_
  refine lv_astore_n (lv' := [(3, .ref fa), (2, .int ((20 * (zI w 203 a)) + 10)), (0, .ref a), (1, .int t)]) hx hb dX2_limitOfSpan_15 rfl hl (by decide) rfl (fun ls hl => ?_)
  refine lv_aload_n hx hb dX2_limitOfSpan_16 rfl (lv_at hl 0 rfl) ?_
  refine z_alen (v := 50) hx hb hA hH (zk0 k_fa (by decide)) (zE_k10 k_fa) 2 rfl (congrArg Int32.ofNat n_fa) dX2_limitOfSpan_17 ?_
  refine lv_istore (lv' := [(4, .int 50), (3, .ref fa), (2, .int ((20 * (zI w 203 a)) + 10)), (0, .ref a), (1, .int t)]) hx hb dX2_limitOfSpan_18 hl (by decide) rfl (fun ls hl => ?_)
  refine lv_iconst (v := 0) hx hb dX2_limitOfSpan_20 (by decide) ?_
  refine lv_istore (lv' := [(5, .int 0), (4, .int 50), (3, .ref fa), (2, .int ((20 * (zI w 203 a)) + 10)), (0, .ref a), (1, .int t)]) hx hb dX2_limitOfSpan_21 hl (by decide) rfl (fun ls hl => ?_)
  have hl_1 : lv_has ls 7 [(0, .ref a), (1, .int t), (2, .int ((20 * (zI w 203 a)) + 10)), (3, .ref fa), (4, .int 50), (5, .int 0)] := lv_sub hl [4, 5, 3, 2, 1, 0] rfl
  have hl_1 : lv_has ls 7 [(0, .ref a), (1, .int t), (2, .int (zMost w a fa t 0)), (3, .ref fa), (4, .int 50), (5, .int (nI 0))] := hl_1
  refine z_for (nL := 7) (50) (fun k u => u = w) (fun k _ => [(0, .ref a), (1, .int t), (2, .int (zMost w a fa t k)), (3, .ref fa), (4, .int 50), (5, .int (nI k))]) 0 (Nat.zero_le _) rfl hH hS hl_1 ?_ ?_
  · intro u H locs ls hu hH hS hl
    rw [hu] at hH
    refine lv_iload hx hb dX2_limitOfSpan_23 (lv_at hl 5 rfl) ?_
    refine lv_iload hx hb dX2_limitOfSpan_25 (lv_at hl 4 rfl) ?_
    refine lv_icmp_ge (tgt := 59) hx hb dX2_limitOfSpan_27 (by decide) (fun c_2 => ?_) (fun c_2 => absurd (nI_le (a := 50) (b := 50) (Nat.le_refl _) (by decide)) c_2)
    refine lv_iload_n hx hb dX2_limitOfSpan_59 rfl (lv_at hl 2 rfl) ?_
    refine lv_iconst (v := 0) hx hb dX2_limitOfSpan_60 (by decide) ?_
    refine va_mmax hx hb (hml.trans hl.1.symm) hown (hts (.methodLink RX2 133 Lib.Math.max.name) (by decide +kernel)) (hts (.static Lib.Math.max.name) (by decide +kernel)) (hts (.initialized "java/lang/Math") (by decide +kernel)) (hts (.code Lib.Math.max.name Lib.Math.max.code 2 (some .int)) (by decide +kernel)) (Nat.le_of_ble_eq_true rfl) (Nat.le_of_ble_eq_true rfl) (Nat.le_of_ble_eq_true rfl) (Nat.le_of_ble_eq_true rfl) dX2_limitOfSpan_61 ?_
    exact z_iret hx hb hr hlocks hH hS (by exact ⟨rfl, rfl⟩) (by decide) (by decide) dX2_limitOfSpan_64
  · intro k hk ih u H locs ls hu hH hS hl
    rw [hu] at hH
    refine lv_iload hx hb dX2_limitOfSpan_23 (lv_at hl 5 rfl) ?_
    refine lv_iload hx hb dX2_limitOfSpan_25 (lv_at hl 4 rfl) ?_
    refine lv_icmp_ge (tgt := 59) hx hb dX2_limitOfSpan_27 (by decide) (fun c_3 => absurd c_3 (nI_ge (b := 50) hk (by decide))) (fun c_3 => ?_)
    refine lv_aload_n hx hb dX2_limitOfSpan_30 rfl (lv_at hl 3 rfl) ?_
    refine lv_iload hx hb dX2_limitOfSpan_31 (lv_at hl 5 rfl) ?_
    rcases hq : zQ w fa k with _ | e9
    · refine z_aald (v := none) hx hb hA hH (zk0 k_fa (by decide)) (zEn (zE_k10 k_fa) n_fa) 2 rfl k rfl (by omega) (by decide) hq dX2_limitOfSpan_33 ?_
      refine lv_astoreN (lv' := [(6, .null), (0, .ref a), (1, .int t), (2, .int (zMost w a fa t k)), (3, .ref fa), (4, .int 50), (5, .int (nI k))]) hx hb dX2_limitOfSpan_34 hl (by decide) rfl (fun ls hl => ?_)
      refine lv_aloadN hx hb dX2_limitOfSpan_36 (lv_at hl 0 rfl) ?_
      refine lv_ifnullN (tgt := 53) hx hb dX2_limitOfSpan_38 (by decide) ?_
      refine lv_iinc (v := ((nI k) + 1)) (lv' := [(5, .int ((nI k) + 1)), (6, .null), (0, .ref a), (1, .int t), (2, .int (zMost w a fa t k)), (3, .ref fa), (4, .int 50)]) hx hb dX2_limitOfSpan_53 hl (k := 6) rfl rfl (by decide) rfl (fun ls hl => ?_)
      refine lv_goto (tgt := 23) hx hb dX2_limitOfSpan_56 (by decide) ?_
      have hl_4 : lv_has ls 7 [(0, .ref a), (1, .int t), (2, .int (zMost w a fa t k)), (3, .ref fa), (4, .int 50), (5, .int ((nI k) + 1))] := lv_sub hl [2, 3, 4, 5, 6, 0] rfl
      rw [show ((zMost w a fa t k) : Int32) = (zMost w a fa t (k + 1)) from (by simp [zMost, hq])] at hl_4
      rw [show (((nI k) + 1) : Int32) = (nI (k + 1)) from (nI_1 _)] at hl_4
      have hl_4 : lv_has ls 7 [(0, .ref a), (1, .int t), (2, .int (zMost w a fa t (k + 1))), (3, .ref fa), (4, .int 50), (5, .int (nI (k + 1)))] := hl_4
      exact ih _ _ _ _ rfl hH hS hl_4
    · refine z_aald (v := (some e9)) hx hb hA hH (zk0 k_fa (by decide)) (zEn (zE_k10 k_fa) n_fa) 2 rfl k rfl (by omega) (by decide) hq dX2_limitOfSpan_33 ?_
      refine lv_astore (lv' := [(6, .ref e9), (0, .ref a), (1, .int t), (2, .int (zMost w a fa t k)), (3, .ref fa), (4, .int 50), (5, .int (nI k))]) hx hb dX2_limitOfSpan_34 hl (by decide) rfl (fun ls hl => ?_)
      refine lv_aload hx hb dX2_limitOfSpan_36 (lv_at hl 0 rfl) ?_
      refine lv_ifnull hx hb dX2_limitOfSpan_38 ?_
      refine lv_aload hx hb dX2_limitOfSpan_41 (lv_at hl 0 rfl) ?_
      refine lv_iload_n hx hb dX2_limitOfSpan_43 rfl (lv_at hl 2 rfl) ?_
      refine z_calli (va_runV (As := [.int t]) (rest := []) ⟨hx, hb, hml, hown, hts⟩ (c0_lowers l D cy base w e9 t (hoff k hk e9 hq)) (cwV 1 hts gX2_limitOfSpan_X0_lowersLimitOn rfl rfl rfl (by decide +kernel) ⟨Nat.le_of_ble_eq_true rfl, Nat.le_of_ble_eq_true rfl⟩) (z_preV hA hS hH (z_recv hA hH (zk0 (hoff k hk e9 hq) (by decide)) (zE_k1 (hoff k hk e9 hq)) (q := (RX0, TX0, 4)) rfl)) rfl rfl hl.1 rfl (lv_room (Nat.le_of_ble_eq_true rfl)) dX2_limitOfSpan_44 ⟨Nat.le_of_ble_eq_true rfl, Nat.le_of_ble_eq_true rfl⟩) hS (fun r_k_5 u_k_5 H locs hw_k_5 hH hz_k_5 hS => ?_)
      rcases hw_k_5 with ⟨h_k_5_0, rfl, hu_k_5⟩ | ⟨h_k_5_0, rfl, hu_k_5⟩
      · rw [hu_k_5] at hH
        refine lv_if_eq (tgt := 53) hx hb dX2_limitOfSpan_47 (by decide) (fun c_6 => absurd c_6 (by decide)) (fun _ => ?_)
        refine lv_iinc (v := ((zMost w a fa t k) + (-5))) (lv' := [(2, .int ((zMost w a fa t k) + (-5))), (6, .ref e9), (0, .ref a), (1, .int t), (3, .ref fa), (4, .int 50), (5, .int (nI k))]) hx hb dX2_limitOfSpan_50 hl (k := 3) rfl rfl (by decide) rfl (fun ls hl => ?_)
        refine lv_iinc (v := ((nI k) + 1)) (lv' := [(5, .int ((nI k) + 1)), (2, .int ((zMost w a fa t k) + (-5))), (6, .ref e9), (0, .ref a), (1, .int t), (3, .ref fa), (4, .int 50)]) hx hb dX2_limitOfSpan_53 hl (k := 6) rfl rfl (by decide) rfl (fun ls hl => ?_)
        refine lv_goto (tgt := 23) hx hb dX2_limitOfSpan_56 (by decide) ?_
        have hl_7 : lv_has ls 7 [(0, .ref a), (1, .int t), (2, .int ((zMost w a fa t k) + (-5))), (3, .ref fa), (4, .int 50), (5, .int ((nI k) + 1))] := lv_sub hl [3, 4, 1, 5, 6, 0] rfl
        rw [show (((zMost w a fa t k) + (-5)) : Int32) = (zMost w a fa t (k + 1)) from (by simp [zMost, hq, h_k_5_0])] at hl_7
        rw [show (((nI k) + 1) : Int32) = (nI (k + 1)) from (nI_1 _)] at hl_7
        have hl_7 : lv_has ls 7 [(0, .ref a), (1, .int t), (2, .int (zMost w a fa t (k + 1))), (3, .ref fa), (4, .int 50), (5, .int (nI (k + 1)))] := hl_7
        exact ih _ _ _ _ rfl hH hS hl_7
      · rw [hu_k_5] at hH
        refine lv_if_eq (tgt := 53) hx hb dX2_limitOfSpan_47 (by decide) (fun _ => ?_) (fun c_8 => absurd c_8 (by decide))
        refine lv_iinc (v := ((nI k) + 1)) (lv' := [(5, .int ((nI k) + 1)), (6, .ref e9), (0, .ref a), (1, .int t), (2, .int (zMost w a fa t k)), (3, .ref fa), (4, .int 50)]) hx hb dX2_limitOfSpan_53 hl (k := 6) rfl rfl (by decide) rfl (fun ls hl => ?_)
        refine lv_goto (tgt := 23) hx hb dX2_limitOfSpan_56 (by decide) ?_
        have hl_9 : lv_has ls 7 [(0, .ref a), (1, .int t), (2, .int (zMost w a fa t k)), (3, .ref fa), (4, .int 50), (5, .int ((nI k) + 1))] := lv_sub hl [2, 3, 4, 5, 6, 0] rfl
        rw [show ((zMost w a fa t k) : Int32) = (zMost w a fa t (k + 1)) from (by simp [zMost, hq, h_k_5_0])] at hl_9
        rw [show (((nI k) + 1) : Int32) = (nI (k + 1)) from (nI_1 _)] at hl_9
        have hl_9 : lv_has ls 7 [(0, .ref a), (1, .int t), (2, .int (zMost w a fa t (k + 1))), (3, .ref fa), (4, .int 50), (5, .int (nI (k + 1)))] := hl_9
        exact ih _ _ _ _ rfl hH hS hl_9
set_option maxHeartbeats 4000000 in
set_option maxRecDepth 100000 in
theorem c2_mayStillBuy (l : Launch) (D : va_G) (cy : Nat → ClassId) (base : Nat) (w : zW) (a : Nat) (t : Int32) (fa : Nat) (q : Nat) (k_a : zK w a = 3) (p207_a : zP w 207 a = some fa) (k_fa : zK w fa = 10) (n_fa : zN w fa = 50) (p211_a : zP w 211 a = some q) (k_q : zK w q = 4) (hoff : ∀ k, k < 50 → ∀ e9, zQ w fa k = some e9 → zK w e9 = 1) : Met l yX2_mayStillBuy wsX2_mayStillBuy ({ frames := 2, cells := 0, slots := 0, locals := 56 }) (zPc D cy base (zH D cy base) [.ref a, .int t] w) (zQi base (zH D cy base) (fun (r0 : Int32) (u0 : zW) => (¬ (zI w 212 a) = 0 ∧ r0 = 0 ∧ u0 = w) ∨ ((zI w 212 a) = 0 ∧ r0 = (if ((if (zMost w a fa t 50) < 0 then 0 else (zMost w a fa t 50)) - (if (t / 7) = (zI w 301 q) then (zI w 302 q) else 0)) < 0 then 0 else ((if (zMost w a fa t 50) < 0 then 0 else (zMost w a fa t 50)) - (if (t / 7) = (zI w 301 q) then (zI w 302 q) else 0))) ∧ u0 = w))) 0 0 (fun q => base ≤ q) := by
  refine Met.ofW (cc := cX2_mayStillBuy) (maxL := 2) (ret := (some .int)) (by decide) rfl ?_
  intro p e s m args below meth c s₁ B9 hml hv
  obtain ⟨rfl, hA, hH⟩ := hv
  have hx := B9.exec
  have hb := B9.bytes
  have hr := B9.returns
  have hts := atoms_spec (ws := wsX2_mayStillBuy) B9.pre
  have hown : s.vm.findClass RX2 = some m.cls := findClass_of_methodNamed B9.named
  have hlocks := B9.notSynchronized
  have hi2 : ∀ w ∈ wsX20, w ∈ wsX2_mayStillBuy := by decide +kernel
  have hS : va_S (fun q : Nat => base ≤ q) s.heap s.heap [] := va_S.rf
  have hl := lv_entry ([.ref a, .int t]) (n := 2) (Nat.le_of_ble_eq_true rfl)
  rw [lg_entry_eq]
  generalize (lg_sl ([.ref a, .int t]) ++ List.replicate (2 - (lg_sl ([.ref a, .int t])).length) Slot.unset).toArray = ls at hl ⊢
  have hl : lv_has ls 2 [(0, .ref a), (1, .int t)] := hl
  refine lv_aload_n hx hb dX2_mayStillBuy_0 rfl (lv_at hl 0 rfl) ?_
  refine z_get (C := RX2) (T := TX2) (N := 14) (ci := 2) (index := 43) (v := .int (zI w 212 a)) hx hb hts hi2 hown hA hH (zk0 k_a (by decide)) (zE_k3 k_a) rfl 12 (by decide) (hts (.fieldLink RX2 43 "ParoleCards$Person" "released" "Z") (by decide +kernel)) (fun _ h9 => h9) rfl dX2_mayStillBuy_1 ?_
  refine lv_if_eq (tgt := 9) hx hb dX2_mayStillBuy_4 (by decide) (fun c_1 => ?_) (fun c_1 => ?_)
  · refine lv_aload_n hx hb dX2_mayStillBuy_9 rfl (lv_at hl 0 rfl) ?_
    refine lv_iload_n hx hb dX2_mayStillBuy_10 rfl (lv_at hl 1 rfl) ?_
    refine z_calli (va_runV (As := [.int t]) (rest := []) ⟨hx, hb, hml, hown, hts⟩ (c2_limitOfSpan l D cy base w a t fa k_a p207_a k_fa n_fa hoff) (cwV 1 hts gX2_mayStillBuy_X2_limitOfSpan rfl rfl rfl (by decide +kernel) ⟨Nat.le_of_ble_eq_true rfl, Nat.le_of_ble_eq_true rfl⟩) (z_preV hA hS hH (z_recv hA hH (zk0 k_a (by decide)) (zE_k3 k_a) (q := (RX2, TX2, 14)) rfl)) rfl rfl hl.1 rfl (lv_room (Nat.le_of_ble_eq_true rfl)) dX2_mayStillBuy_11 ⟨Nat.le_of_ble_eq_true rfl, Nat.le_of_ble_eq_true rfl⟩) hS (fun r_k_2 u_k_2 H locs hw_k_2 hH hz_k_2 hS => ?_)
    rcases hw_k_2 with ⟨rfl, hu_k_2⟩
    rw [hu_k_2] at hH
    refine lv_aload_n hx hb dX2_mayStillBuy_14 rfl (lv_at hl 0 rfl) ?_
    refine z_get (C := RX2) (T := TX2) (N := 14) (ci := 2) (index := 24) (v := .ref q) hx hb hts hi2 hown hA hH (zk0 k_a (by decide)) (zE_k3 k_a) rfl 11 (by decide) (hts (.fieldLink RX2 24 "ParoleCards$Person" "purse" "LParoleCards$Purse;") (by decide +kernel)) (fun _ h9 => h9) (congrArg (fun z => some (va_rf z)) p211_a) dX2_mayStillBuy_15 ?_
    refine lv_iload_n hx hb dX2_mayStillBuy_18 rfl (lv_at hl 1 rfl) ?_
    refine lv_bipush (v := 7) hx hb dX2_mayStillBuy_19 (by decide) ?_
    refine lv_idiv hx hb dX2_mayStillBuy_21 (by decide) ?_
    refine z_calli (va_runV (As := [.int (t / 7)]) (rest := [.int (if (zMost w a fa t 50) < 0 then 0 else (zMost w a fa t 50))]) ⟨hx, hb, hml, hown, hts⟩ (c3_bought l D cy base w q (t / 7) k_q) (cwV 1 hts gX2_mayStillBuy_X3_boughtInSpan rfl rfl rfl (by decide +kernel) ⟨Nat.le_of_ble_eq_true rfl, Nat.le_of_ble_eq_true rfl⟩) (z_preV hA hS hH (z_recv hA hH (zk0 k_q (by decide)) (zE_k4 k_q) (q := (RX3, TX3, 4)) rfl)) rfl rfl hl.1 rfl (lv_room (Nat.le_of_ble_eq_true rfl)) dX2_mayStillBuy_22 ⟨Nat.le_of_ble_eq_true rfl, Nat.le_of_ble_eq_true rfl⟩) hS (fun r_k_3 u_k_3 H locs hw_k_3 hH hz_k_3 hS => ?_)
    rcases hw_k_3 with ⟨rfl, hu_k_3⟩
    rw [hu_k_3] at hH
    refine lv_isub hx hb dX2_mayStillBuy_25 ?_
    refine lv_iconst (v := 0) hx hb dX2_mayStillBuy_26 (by decide) ?_
    refine va_mmax hx hb (hml.trans hl.1.symm) hown (hts (.methodLink RX2 133 Lib.Math.max.name) (by decide +kernel)) (hts (.static Lib.Math.max.name) (by decide +kernel)) (hts (.initialized "java/lang/Math") (by decide +kernel)) (hts (.code Lib.Math.max.name Lib.Math.max.code 2 (some .int)) (by decide +kernel)) (Nat.le_of_ble_eq_true rfl) (Nat.le_of_ble_eq_true rfl) (Nat.le_of_ble_eq_true rfl) (Nat.le_of_ble_eq_true rfl) dX2_mayStillBuy_27 ?_
    exact z_iret hx hb hr hlocks hH hS (by first | contradiction | (refine Or.inl (⟨?_, rfl, rfl⟩) <;> first | assumption | omega | (simp_all; done)) | (refine Or.inr (⟨?_, rfl, rfl⟩) <;> first | assumption | omega | (simp_all; done))) (by decide) (by decide) dX2_mayStillBuy_30
  · refine lv_iconst (v := 0) hx hb dX2_mayStillBuy_7 (by decide) ?_
    exact z_iret hx hb hr hlocks hH hS (by first | contradiction | (refine Or.inl (⟨?_, rfl, rfl⟩) <;> first | assumption | omega | (simp_all; done)) | (refine Or.inr (⟨?_, rfl, rfl⟩) <;> first | assumption | omega | (simp_all; done))) (by decide) (by decide) dX2_mayStillBuy_8
