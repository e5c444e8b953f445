set_option maxHeartbeats 4000000 in
set_option maxRecDepth 100000 in
theorem c6_admit (l : Launch) (D : va_G) (cy : Nat → ClassId) (base : Nat) (w0 : zW) (y : Nat) (r : Nat → Nat) (B : Nat → Nat → Int32) (d : Int32) (k : Int32) (hinv : mInv B) : Met l yX6_admit wsX6_admit ({ frames := 1, cells := 0, slots := 0, locals := 22 }) (zPc D cy base (mH D cy base w0 y r) [.ref y, .int d, .int k] B) (zQi base (mH D cy base w0 y r) (fun (r0 : Int32) (u0 : Nat → Nat → Int32) => ((cd_admit B d k) = 0 ∧ r0 = (an_admit (z2 B 27 0 0)) ∧ u0 = (up_admit (z2 B 27 0 0) d k)) ∨ (¬ (cd_admit B d k) = 0 ∧ u0 = (z2 B 27 0 (cd_admit B d k))))) 0 0 (fun q => base ≤ q) := by
  refine Met.ofW (cc := cX6_admit) (maxL := 4) (ret := (some .int)) (by decide) rfl ?_
  intro p e s m args below meth c s₁ B9 hml hv
  obtain ⟨rfl, hA, hH⟩ := hv
  have hx := B9.exec
  have hb := B9.bytes
  have hr := B9.returns
  have hts := atoms_spec (ws := wsX6_admit) B9.pre
  have hown : s.vm.findClass RX6 = some m.cls := findClass_of_methodNamed B9.named
  have hlocks := B9.notSynchronized
  have hi6 : ∀ w ∈ wsX60, w ∈ wsX6_admit := by decide +kernel
  have hS : va_S (fun q : Nat => base ≤ q) s.heap s.heap [] := va_S.rf
  have hl := lv_entry ([.ref y, .int d, .int k]) (n := 4) (Nat.le_of_ble_eq_true rfl)
  rw [lg_entry_eq]
  generalize (lg_sl ([.ref y, .int d, .int k]) ++ List.replicate (4 - (lg_sl ([.ref y, .int d, .int k])).length) Slot.unset).toArray = ls at hl ⊢
  have hl : lv_has ls 4 [(0, .ref y), (1, .int d), (2, .int k)] := hl
  refine lv_iload_n hx hb dX6_admit_0 rfl (lv_at hl 1 rfl) ?_
  refine lv_iconst (v := 1) hx hb dX6_admit_1 (by decide) ?_
  refine lv_sipush (v := 2000) hx hb dX6_admit_2 (by decide) ?_
  refine z_calli (va_runS (As := [.int d, .int 1, .int 2000]) (rest := []) ⟨hx, hb, hml, hown, hts⟩ (c6_lies l D cy base w0 y r B d 1 2000 ) (va_cwS 3 hts gX6_admit_X6_lies rfl rfl rfl (by decide +kernel) ⟨Nat.le_of_ble_eq_true rfl, Nat.le_of_ble_eq_true rfl⟩) (z_preS hA hS hH) rfl rfl hl.1 rfl (lv_room (Nat.le_of_ble_eq_true rfl)) dX6_admit_5 ⟨Nat.le_of_ble_eq_true rfl, Nat.le_of_ble_eq_true rfl⟩) hS (fun r_k_1 u_k_1 H locs hw_k_1 hH hz_k_1 hS => ?_)
  rcases hw_k_1 with ⟨h_k_1_0, rfl, hu_k_1⟩ | ⟨h_k_1_0, rfl, hu_k_1⟩
  · rw [hu_k_1] at hH
    refine lv_if_eq (tgt := 25) hx hb dX6_admit_8 (by decide) (fun c_2 => absurd c_2 (by decide)) (fun _ => ?_)
    refine lv_iload_n hx hb dX6_admit_11 rfl (lv_at hl 2 rfl) ?_
    refine lv_iconst (v := 0) hx hb dX6_admit_12 (by decide) ?_
    refine lv_bipush (v := 15) hx hb dX6_admit_13 (by decide) ?_
    refine z_calli (va_runS (As := [.int k, .int 0, .int 15]) (rest := []) ⟨hx, hb, hml, hown, hts⟩ (c6_lies l D cy base w0 y r B k 0 15 ) (va_cwS 3 hts gX6_admit_X6_lies rfl rfl rfl (by decide +kernel) ⟨Nat.le_of_ble_eq_true rfl, Nat.le_of_ble_eq_true rfl⟩) (z_preS hA hS hH) rfl rfl hl.1 rfl (lv_room (Nat.le_of_ble_eq_true rfl)) dX6_admit_15 ⟨Nat.le_of_ble_eq_true rfl, Nat.le_of_ble_eq_true rfl⟩) hS (fun r_k_3 u_k_3 H locs hw_k_3 hH hz_k_3 hS => ?_)
    rcases hw_k_3 with ⟨h_k_3_0, rfl, hu_k_3⟩ | ⟨h_k_3_0, rfl, hu_k_3⟩
    · rw [hu_k_3] at hH
      refine lv_if_eq (tgt := 25) hx hb dX6_admit_18 (by decide) (fun c_4 => absurd c_4 (by decide)) (fun _ => ?_)
      refine lv_iconst (v := 1) hx hb dX6_admit_21 (by decide) ?_
      refine lv_goto (tgt := 26) hx hb dX6_admit_22 (by decide) ?_
      refine lv_istore_n (lv' := [(3, .int 1), (0, .ref y), (1, .int d), (2, .int k)]) hx hb dX6_admit_26 rfl hl (by decide) rfl (fun ls hl => ?_)
      refine lv_aload_n hx hb dX6_admit_27 rfl (lv_at hl 1 rfl) ?_
      refine lv_iload_n hx hb dX6_admit_28 rfl (lv_at hl 0 rfl) ?_
      refine lv_if_ne (tgt := 36) hx hb dX6_admit_29 (by decide) (fun _ => ?_) (fun c_5 => absurd c_5 (by decide))
      refine lv_aload_n hx hb dX6_admit_36 rfl (lv_at hl 1 rfl) ?_
      refine m_num (f := 1) (v := (B 1 0)) (by unfold mNum; decide) hx hb hts hi6 hown hA hH (hts (.fieldLink RX6 87 "ParoleCardsModel" "people" "I") (by decide +kernel)) rfl dX6_admit_37 ?_
      refine lv_bipush (v := 10) hx hb dX6_admit_40 (by decide) ?_
      refine lv_icmp_ne (tgt := 49) hx hb dX6_admit_42 (by decide) (fun c_6 => ?_) (fun c_6 => ?_)
      · refine lv_iconst (v := 0) hx hb dX6_admit_49 (by decide) ?_
        refine z_calli (va_runV (As := [.int 0]) (rest := []) ⟨hx, hb, hml, hown, hts⟩ (c6_fails0 l D cy base w0 y r B  ) (cwV 1 hts gX6_admit_X6_fails rfl rfl rfl (by decide +kernel) ⟨Nat.le_of_ble_eq_true rfl, Nat.le_of_ble_eq_true rfl⟩) (z_preV hA hS hH (m_recv hA hH)) rfl rfl hl.1 rfl (lv_room (Nat.le_of_ble_eq_true rfl)) dX6_admit_50 ⟨Nat.le_of_ble_eq_true rfl, Nat.le_of_ble_eq_true rfl⟩) hS (fun r_k_7 u_k_7 H locs hw_k_7 hH hz_k_7 hS => ?_)
        rcases hw_k_7 with ⟨rfl, hu_k_7⟩
        rw [hu_k_7] at hH
        refine lv_if_eq (tgt := 58) hx hb dX6_admit_53 (by decide) (fun _ => ?_) (fun c_8 => absurd c_8 (by decide))
        have hlt := mInv_lt hinv c_6
        refine lv_aload_n hx hb dX6_admit_58 rfl (lv_at hl 1 rfl) ?_
        refine m_arr (f := 3) (by unfold mArr; decide) hx hb hts hi6 hown hA hH (hts (.fieldLink RX6 13 "ParoleCardsModel" "since" "[I") (by decide +kernel)) rfl dX6_admit_59 ?_
        refine lv_aload_n hx hb dX6_admit_62 rfl (lv_at hl 1 rfl) ?_
        refine m_num (f := 1) (v := (B 1 0)) (by unfold mNum; decide) hx hb hts hi6 hown hA hH (hts (.fieldLink RX6 87 "ParoleCardsModel" "people" "I") (by decide +kernel)) rfl dX6_admit_63 ?_
        refine lv_aload_n hx hb dX6_admit_66 rfl (lv_at hl 1 rfl) ?_
        refine m_num (f := 0) (v := (B 0 0)) (by unfold mNum; decide) hx hb hts hi6 hown hA hH (hts (.fieldLink RX6 101 "ParoleCardsModel" "today" "I") (by decide +kernel)) rfl dX6_admit_67 ?_
        refine m_iast (f := 3) (by unfold mArr; decide) rfl hx hb hA hH hS (nP B) hinv.1.2 (by rw [show mLen 3 = 10 from rfl]; exact hlt) dX6_admit_70 (fun H locs hH hS => ?_)
        refine lv_aload_n hx hb dX6_admit_71 rfl (lv_at hl 1 rfl) ?_
        refine m_arr (f := 4) (by unfold mArr; decide) hx hb hts hi6 hown hA hH (hts (.fieldLink RX6 17 "ParoleCardsModel" "term" "[I") (by decide +kernel)) rfl dX6_admit_72 ?_
        refine lv_aload_n hx hb dX6_admit_75 rfl (lv_at hl 1 rfl) ?_
        refine m_num (f := 1) (v := (B 1 0)) (by unfold mNum; decide) hx hb hts hi6 hown hA hH (hts (.fieldLink RX6 87 "ParoleCardsModel" "people" "I") (by decide +kernel)) rfl dX6_admit_76 ?_
        refine lv_iload_n hx hb dX6_admit_79 rfl (lv_at hl 2 rfl) ?_
        refine m_iast (f := 4) (by unfold mArr; decide) rfl hx hb hA hH hS (nP B) hinv.1.2 (by rw [show mLen 4 = 10 from rfl]; exact hlt) dX6_admit_80 (fun H locs hH hS => ?_)
        refine lv_aload_n hx hb dX6_admit_81 rfl (lv_at hl 1 rfl) ?_
        refine m_arr (f := 5) (by unfold mArr; decide) hx hb hts hi6 hown hA hH (hts (.fieldLink RX6 20 "ParoleCardsModel" "skills" "[I") (by decide +kernel)) rfl dX6_admit_82 ?_
        refine lv_aload_n hx hb dX6_admit_85 rfl (lv_at hl 1 rfl) ?_
        refine m_num (f := 1) (v := (B 1 0)) (by unfold mNum; decide) hx hb hts hi6 hown hA hH (hts (.fieldLink RX6 87 "ParoleCardsModel" "people" "I") (by decide +kernel)) rfl dX6_admit_86 ?_
        refine lv_iload_n hx hb dX6_admit_89 rfl (lv_at hl 3 rfl) ?_
        refine m_iast (f := 5) (by unfold mArr; decide) rfl hx hb hA hH hS (nP B) hinv.1.2 (by rw [show mLen 5 = 10 from rfl]; exact hlt) dX6_admit_90 (fun H locs hH hS => ?_)
        refine lv_aload_n hx hb dX6_admit_91 rfl (lv_at hl 1 rfl) ?_
        refine m_arr (f := 6) (by unfold mArr; decide) hx hb hts hi6 hown hA hH (hts (.fieldLink RX6 23 "ParoleCardsModel" "regime" "[I") (by decide +kernel)) rfl dX6_admit_92 ?_
        refine lv_aload_n hx hb dX6_admit_95 rfl (lv_at hl 1 rfl) ?_
        refine m_num (f := 1) (v := (B 1 0)) (by unfold mNum; decide) hx hb hts hi6 hown hA hH (hts (.fieldLink RX6 87 "ParoleCardsModel" "people" "I") (by decide +kernel)) rfl dX6_admit_96 ?_
        refine lv_iconst (v := 1) hx hb dX6_admit_99 (by decide) ?_
        refine m_iast (f := 6) (by unfold mArr; decide) rfl hx hb hA hH hS (nP B) hinv.1.2 (by rw [show mLen 6 = 10 from rfl]; exact hlt) dX6_admit_100 (fun H locs hH hS => ?_)
        refine lv_aload_n hx hb dX6_admit_101 rfl (lv_at hl 1 rfl) ?_
        refine m_arr (f := 11) (by unfold mArr; decide) hx hb hts hi6 hown hA hH (hts (.fieldLink RX6 38 "ParoleCardsModel" "on" "[I") (by decide +kernel)) rfl dX6_admit_102 ?_
        refine lv_aload_n hx hb dX6_admit_105 rfl (lv_at hl 1 rfl) ?_
        refine m_num (f := 1) (v := (B 1 0)) (by unfold mNum; decide) hx hb hts hi6 hown hA hH (hts (.fieldLink RX6 87 "ParoleCardsModel" "people" "I") (by decide +kernel)) rfl dX6_admit_106 ?_
        refine lv_iconst (v := (-1)) hx hb dX6_admit_109 (by decide) ?_
        refine m_iast (f := 11) (by unfold mArr; decide) rfl hx hb hA hH hS (nP B) hinv.1.2 (by rw [show mLen 11 = 10 from rfl]; exact hlt) dX6_admit_110 (fun H locs hH hS => ?_)
        refine lv_aload_n hx hb dX6_admit_111 rfl (lv_at hl 1 rfl) ?_
        refine lv_dup hx hb dX6_admit_112 rfl ?_
        refine m_num (f := 1) (v := (B 1 0)) (by unfold mNum; decide) hx hb hts hi6 hown hA hH (hts (.fieldLink RX6 87 "ParoleCardsModel" "people" "I") (by decide +kernel)) rfl dX6_admit_113 ?_
        refine lv_iconst (v := 1) hx hb dX6_admit_116 (by decide) ?_
        refine lv_iadd hx hb dX6_admit_117 ?_
        refine m_put (f := 1) (by unfold mNum; decide) hx hb hts hi6 hown hA hH hS (hts (.fieldLink RX6 87 "ParoleCardsModel" "people" "I") (by decide +kernel)) dX6_admit_118 (fun H locs hH hS => ?_)
        refine lv_aload_n hx hb dX6_admit_121 rfl (lv_at hl 1 rfl) ?_
        refine m_num (f := 1) (v := ((B 1 0) + 1)) (by unfold mNum; decide) hx hb hts hi6 hown hA hH (hts (.fieldLink RX6 87 "ParoleCardsModel" "people" "I") (by decide +kernel)) (by simp [z2, va_up]) dX6_admit_122 ?_
        refine lv_iconst (v := 1) hx hb dX6_admit_125 (by decide) ?_
        refine lv_isub hx hb dX6_admit_126 ?_
        exact z_iret hx hb hr hlocks hH hS (by
          have hc : (cd_admit B d k) = 0 := by first | (simp [cd_admit, h_k_1_0, h_k_3_0, c_6]; done) | (simp_all [cd_admit]; done)
          refine Or.inl ⟨hc, ?_, ?_⟩ <;> (simp [up_admit, an_admit, h_k_1_0, h_k_3_0, c_6, z27_0, z27_1, z27_2, z27_3, z27_4, z27_5, z27_6, z27_7, z27_8, z27_9, z27_10, z27_11, z27_12, z27_13, z27_14, z27_15, z27_16, z27_17, z27_18, z27_19, z27_20, z27_21, z27_22, z27_23, z27_24, z27_25, z27_26, z27_oc, z27_ox, z27_kx, z27_nP, z27_nO]; done)) (by decide) (by decide) dX6_admit_127
      · refine lv_iconst (v := 2) hx hb dX6_admit_45 (by decide) ?_
        refine lv_goto (tgt := 50) hx hb dX6_admit_46 (by decide) ?_
        refine z_calli (va_runV (As := [.int 2]) (rest := []) ⟨hx, hb, hml, hown, hts⟩ (c6_fails2 l D cy base w0 y r B  ) (cwV 1 hts gX6_admit_X6_fails rfl rfl rfl (by decide +kernel) ⟨Nat.le_of_ble_eq_true rfl, Nat.le_of_ble_eq_true rfl⟩) (z_preV hA hS hH (m_recv hA hH)) rfl rfl hl.1 rfl (lv_room (Nat.le_of_ble_eq_true rfl)) dX6_admit_50 ⟨Nat.le_of_ble_eq_true rfl, Nat.le_of_ble_eq_true rfl⟩) hS (fun r_k_9 u_k_9 H locs hw_k_9 hH hz_k_9 hS => ?_)
        rcases hw_k_9 with ⟨rfl, hu_k_9⟩
        rw [hu_k_9] at hH
        refine lv_if_eq (tgt := 58) hx hb dX6_admit_53 (by decide) (fun c_10 => absurd c_10 (by decide)) (fun _ => ?_)
        refine lv_iconst (v := 0) hx hb dX6_admit_56 (by decide) ?_
        exact z_iret hx hb hr hlocks hH hS (by
          have hc : (cd_admit B d k) = 2 := by first | (simp [cd_admit, h_k_1_0, h_k_3_0, c_6]; done) | (simp_all [cd_admit]; done)
          exact Or.inr ⟨by rw [hc]; decide, by rw [hc]⟩) (by decide) (by decide) dX6_admit_57
    · rw [hu_k_3] at hH
      refine lv_if_eq (tgt := 25) hx hb dX6_admit_18 (by decide) (fun _ => ?_) (fun c_11 => absurd c_11 (by decide))
      refine lv_iconst (v := 0) hx hb dX6_admit_25 (by decide) ?_
      refine lv_istore_n (lv' := [(3, .int 0), (0, .ref y), (1, .int d), (2, .int k)]) hx hb dX6_admit_26 rfl hl (by decide) rfl (fun ls hl => ?_)
      refine lv_aload_n hx hb dX6_admit_27 rfl (lv_at hl 1 rfl) ?_
      refine lv_iload_n hx hb dX6_admit_28 rfl (lv_at hl 0 rfl) ?_
      refine lv_if_ne (tgt := 36) hx hb dX6_admit_29 (by decide) (fun c_12 => absurd c_12 (by decide)) (fun _ => ?_)
      refine lv_iconst (v := 1) hx hb dX6_admit_32 (by decide) ?_
      refine lv_goto (tgt := 50) hx hb dX6_admit_33 (by decide) ?_
      refine z_calli (va_runV (As := [.int 1]) (rest := []) ⟨hx, hb, hml, hown, hts⟩ (c6_fails1 l D cy base w0 y r B  ) (cwV 1 hts gX6_admit_X6_fails rfl rfl rfl (by decide +kernel) ⟨Nat.le_of_ble_eq_true rfl, Nat.le_of_ble_eq_true rfl⟩) (z_preV hA hS hH (m_recv hA hH)) rfl rfl hl.1 rfl (lv_room (Nat.le_of_ble_eq_true rfl)) dX6_admit_50 ⟨Nat.le_of_ble_eq_true rfl, Nat.le_of_ble_eq_true rfl⟩) hS (fun r_k_13 u_k_13 H locs hw_k_13 hH hz_k_13 hS => ?_)
      rcases hw_k_13 with ⟨rfl, hu_k_13⟩
      rw [hu_k_13] at hH
      refine lv_if_eq (tgt := 58) hx hb dX6_admit_53 (by decide) (fun c_14 => absurd c_14 (by decide)) (fun _ => ?_)
      refine lv_iconst (v := 0) hx hb dX6_admit_56 (by decide) ?_
      exact z_iret hx hb hr hlocks hH hS (by
        have hc : (cd_admit B d k) = 1 := by first | (simp [cd_admit, h_k_1_0, h_k_3_0]; done) | (simp_all [cd_admit]; done)
        exact Or.inr ⟨by rw [hc]; decide, by rw [hc]⟩) (by decide) (by decide) dX6_admit_57
  · rw [hu_k_1] at hH
    refine lv_if_eq (tgt := 25) hx hb dX6_admit_8 (by decide) (fun _ => ?_) (fun c_15 => absurd c_15 (by decide))
    refine lv_iconst (v := 0) hx hb dX6_admit_25 (by decide) ?_
    refine lv_istore_n (lv' := [(3, .int 0), (0, .ref y), (1, .int d), (2, .int k)]) hx hb dX6_admit_26 rfl hl (by decide) rfl (fun ls hl => ?_)
    refine lv_aload_n hx hb dX6_admit_27 rfl (lv_at hl 1 rfl) ?_
    refine lv_iload_n hx hb dX6_admit_28 rfl (lv_at hl 0 rfl) ?_
    refine lv_if_ne (tgt := 36) hx hb dX6_admit_29 (by decide) (fun c_16 => absurd c_16 (by decide)) (fun _ => ?_)
    refine lv_iconst (v := 1) hx hb dX6_admit_32 (by decide) ?_
    refine lv_goto (tgt := 50) hx hb dX6_admit_33 (by decide) ?_
    refine z_calli (va_runV (As := [.int 1]) (rest := []) ⟨hx, hb, hml, hown, hts⟩ (c6_fails1 l D cy base w0 y r B  ) (cwV 1 hts gX6_admit_X6_fails rfl rfl rfl (by decide +kernel) ⟨Nat.le_of_ble_eq_true rfl, Nat.le_of_ble_eq_true rfl⟩) (z_preV hA hS hH (m_recv hA hH)) rfl rfl hl.1 rfl (lv_room (Nat.le_of_ble_eq_true rfl)) dX6_admit_50 ⟨Nat.le_of_ble_eq_true rfl, Nat.le_of_ble_eq_true rfl⟩) hS (fun r_k_17 u_k_17 H locs hw_k_17 hH hz_k_17 hS => ?_)
    rcases hw_k_17 with ⟨rfl, hu_k_17⟩
    rw [hu_k_17] at hH
    refine lv_if_eq (tgt := 58) hx hb dX6_admit_53 (by decide) (fun c_18 => absurd c_18 (by decide)) (fun _ => ?_)
    refine lv_iconst (v := 0) hx hb dX6_admit_56 (by decide) ?_
    exact z_iret hx hb hr hlocks hH hS (by
      have hc : (cd_admit B d k) = 1 := by first | (simp [cd_admit, h_k_1_0]; done) | (simp_all [cd_admit]; done)
      exact Or.inr ⟨by rw [hc]; decide, by rw [hc]⟩) (by decide) (by decide) dX6_admit_57
set_option maxHeartbeats 4000000 in
set_option maxRecDepth 100000 in
theorem c6_course (l : Launch) (D : va_G) (cy : Nat → ClassId) (base : Nat) (w0 : zW) (y : Nat) (r : Nat → Nat) (B : Nat → Nat → Int32) (its : Int32) (what : Int32) (days : Int32) (hinv : mInv B) : Met l yX6_course wsX6_course ({ frames := 2, cells := 0, slots := 0, locals := 46 }) (zPc D cy base (mH D cy base w0 y r) [.ref y, .int its, .int what, .int days] B) (zQi base (mH D cy base w0 y r) (fun (r0 : Int32) (u0 : Nat → Nat → Int32) => ((cd_course B its what days) = 0 ∧ r0 = (an_course (z2 B 27 0 0) its what days) ∧ u0 = (up_course (z2 B 27 0 0) its what days)) ∨ (¬ (cd_course B its what days) = 0 ∧ u0 = (z2 B 27 0 (cd_course B its what days))))) 0 0 (fun q => base ≤ q) := by
  refine Met.ofW (cc := cX6_course) (maxL := 5) (ret := (some .int)) (by decide) rfl ?_
  intro p e s m args below meth c s₁ B9 hml hv
  obtain ⟨rfl, hA, hH⟩ := hv
  have hx := B9.exec
  have hb := B9.bytes
  have hr := B9.returns
  have hts := atoms_spec (ws := wsX6_course) B9.pre
  have hown : s.vm.findClass RX6 = some m.cls := findClass_of_methodNamed B9.named
  have hlocks := B9.notSynchronized
  have hi6 : ∀ w ∈ wsX60, w ∈ wsX6_course := by decide +kernel
  have hS : va_S (fun q : Nat => base ≤ q) s.heap s.heap [] := va_S.rf
  have hl := lv_entry ([.ref y, .int its, .int what, .int days]) (n := 5) (Nat.le_of_ble_eq_true rfl)
  rw [lg_entry_eq]
  generalize (lg_sl ([.ref y, .int its, .int what, .int days]) ++ List.replicate (5 - (lg_sl ([.ref y, .int its, .int what, .int days])).length) Slot.unset).toArray = ls at hl ⊢
  have hl : lv_has ls 5 [(0, .ref y), (1, .int its), (2, .int what), (3, .int days)] := hl
  rcases vP_split hinv its with ⟨i, rfl, hi, hi10, hvP, hix⟩ | hvP
  · obtain ⟨h10, h50⟩ := mInv_oc50 hinv hi
    refine lv_aload_n hx hb dX6_course_0 rfl (lv_at hl 0 rfl) ?_
    refine lv_iload_n hx hb dX6_course_1 rfl (lv_at hl 1 rfl) ?_
    refine z_calli (va_runV (As := [.int (nI i)]) (rest := []) ⟨hx, hb, hml, hown, hts⟩ (c6_isPerson_t l D cy base w0 y r B i hvP) (cwV 1 hts gX6_course_X6_isPerson rfl rfl rfl (by decide +kernel) ⟨Nat.le_of_ble_eq_true rfl, Nat.le_of_ble_eq_true rfl⟩) (z_preV hA hS hH (m_recv hA hH)) rfl rfl hl.1 rfl (lv_room (Nat.le_of_ble_eq_true rfl)) dX6_course_2 ⟨Nat.le_of_ble_eq_true rfl, Nat.le_of_ble_eq_true rfl⟩) hS (fun r_k_1 u_k_1 H locs hw_k_1 hH hz_k_1 hS => ?_)
    rcases hw_k_1 with ⟨rfl, hu_k_1⟩
    rw [hu_k_1] at hH
    refine lv_if_eq (tgt := 21) hx hb dX6_course_5 (by decide) (fun c_2 => absurd c_2 (by decide)) (fun _ => ?_)
    refine lv_iload_n hx hb dX6_course_8 rfl (lv_at hl 2 rfl) ?_
    refine lv_iconst (v := 0) hx hb dX6_course_9 (by decide) ?_
    refine lv_iconst (v := 3) hx hb dX6_course_10 (by decide) ?_
    refine z_calli (va_runS (As := [.int what, .int 0, .int 3]) (rest := []) ⟨hx, hb, hml, hown, hts⟩ (c6_lies l D cy base w0 y r B what 0 3 ) (va_cwS 3 hts gX6_course_X6_lies rfl rfl rfl (by decide +kernel) ⟨Nat.le_of_ble_eq_true rfl, Nat.le_of_ble_eq_true rfl⟩) (z_preS hA hS hH) rfl rfl hl.1 rfl (lv_room (Nat.le_of_ble_eq_true rfl)) dX6_course_11 ⟨Nat.le_of_ble_eq_true rfl, Nat.le_of_ble_eq_true rfl⟩) hS (fun r_k_3 u_k_3 H locs hw_k_3 hH hz_k_3 hS => ?_)
    rcases hw_k_3 with ⟨h_k_3_0, rfl, hu_k_3⟩ | ⟨h_k_3_0, rfl, hu_k_3⟩
    · rw [hu_k_3] at hH
      refine lv_if_eq (tgt := 21) hx hb dX6_course_14 (by decide) (fun c_4 => absurd c_4 (by decide)) (fun _ => ?_)
      refine lv_iconst (v := 1) hx hb dX6_course_17 (by decide) ?_
      refine lv_goto (tgt := 22) hx hb dX6_course_18 (by decide) ?_
      refine lv_istore (lv' := [(4, .int 1), (0, .ref y), (1, .int (nI i)), (2, .int what), (3, .int days)]) hx hb dX6_course_22 hl (by decide) rfl (fun ls hl => ?_)
      refine lv_aload_n hx hb dX6_course_24 rfl (lv_at hl 1 rfl) ?_
      refine lv_iload hx hb dX6_course_25 (lv_at hl 0 rfl) ?_
      refine lv_if_ne (tgt := 34) hx hb dX6_course_27 (by decide) (fun _ => ?_) (fun c_5 => absurd c_5 (by decide))
      refine lv_iload_n hx hb dX6_course_34 rfl (lv_at hl 4 rfl) ?_
      refine lv_iconst (v := 0) hx hb dX6_course_35 (by decide) ?_
      refine lv_bipush (v := 100) hx hb dX6_course_36 (by decide) ?_
      refine z_calli (va_runS (As := [.int days, .int 0, .int 100]) (rest := [.ref y]) ⟨hx, hb, hml, hown, hts⟩ (c6_lies l D cy base w0 y r B days 0 100 ) (va_cwS 3 hts gX6_course_X6_lies rfl rfl rfl (by decide +kernel) ⟨Nat.le_of_ble_eq_true rfl, Nat.le_of_ble_eq_true rfl⟩) (z_preS hA hS hH) rfl rfl hl.1 rfl (lv_room (Nat.le_of_ble_eq_true rfl)) dX6_course_38 ⟨Nat.le_of_ble_eq_true rfl, Nat.le_of_ble_eq_true rfl⟩) hS (fun r_k_6 u_k_6 H locs hw_k_6 hH hz_k_6 hS => ?_)
      rcases hw_k_6 with ⟨h_k_6_0, rfl, hu_k_6⟩ | ⟨h_k_6_0, rfl, hu_k_6⟩
      · rw [hu_k_6] at hH
        refine lv_if_ne (tgt := 48) hx hb dX6_course_41 (by decide) (fun _ => ?_) (fun c_7 => absurd c_7 (by decide))
        refine lv_aload_n hx hb dX6_course_48 rfl (lv_at hl 1 rfl) ?_
        refine m_arr (f := 2) (by unfold mArr; decide) hx hb hts hi6 hown hA hH (hts (.fieldLink RX6 7 "ParoleCardsModel" "isOut" "[Z") (by decide +kernel)) rfl dX6_course_49 ?_
        refine lv_iload_n hx hb dX6_course_52 rfl (lv_at hl 2 rfl) ?_
        refine m_zald (f := 2) (v := (B 2 i)) (by unfold mArr; decide) rfl hx hb hA hH i rfl (by rw [show mLen 2 = 10 from rfl]; omega) rfl dX6_course_53 ?_
        refine lv_if_ne (tgt := 68) hx hb dX6_course_54 (by decide) (fun c_8 => ?_) (fun c_8 => ?_)
        · refine lv_iconst (v := 3) hx hb dX6_course_68 (by decide) ?_
          refine lv_goto (tgt := 73) hx hb dX6_course_69 (by decide) ?_
          refine z_calli (va_runV (As := [.int 3]) (rest := []) ⟨hx, hb, hml, hown, hts⟩ (c6_fails3 l D cy base w0 y r B  ) (cwV 1 hts gX6_course_X6_fails rfl rfl rfl (by decide +kernel) ⟨Nat.le_of_ble_eq_true rfl, Nat.le_of_ble_eq_true rfl⟩) (z_preV hA hS hH (m_recv hA hH)) rfl rfl hl.1 rfl (lv_room (Nat.le_of_ble_eq_true rfl)) dX6_course_73 ⟨Nat.le_of_ble_eq_true rfl, Nat.le_of_ble_eq_true rfl⟩) hS (fun r_k_9 u_k_9 H locs hw_k_9 hH hz_k_9 hS => ?_)
          rcases hw_k_9 with ⟨rfl, hu_k_9⟩
          rw [hu_k_9] at hH
          refine lv_if_eq (tgt := 81) hx hb dX6_course_76 (by decide) (fun c_10 => absurd c_10 (by decide)) (fun _ => ?_)
          refine lv_iconst (v := 0) hx hb dX6_course_79 (by decide) ?_
          exact z_iret hx hb hr hlocks hH hS (by
            have hc : (cd_course B (nI i) what days) = 3 := by first | (simp [cd_course, h_k_3_0, h_k_6_0, c_8, hvP, hix]; done) | (simp_all [cd_course]; done)
            exact Or.inr ⟨by rw [hc]; decide, by rw [hc]⟩) (by decide) (by decide) dX6_course_80
        · refine lv_aload_n hx hb dX6_course_57 rfl (lv_at hl 1 rfl) ?_
          refine m_arr (f := 9) (by unfold mArr; decide) hx hb hts hi6 hown hA hH (hts (.fieldLink RX6 32 "ParoleCardsModel" "papers" "[I") (by decide +kernel)) rfl dX6_course_58 ?_
          refine lv_iload_n hx hb dX6_course_61 rfl (lv_at hl 2 rfl) ?_
          refine m_iald (f := 9) (v := (B 9 i)) (by unfold mArr; decide) rfl hx hb hA hH i rfl (by rw [show mLen 9 = 10 from rfl]; omega) rfl dX6_course_62 ?_
          refine lv_bipush (v := 50) hx hb dX6_course_63 (by decide) ?_
          refine lv_icmp_ne (tgt := 72) hx hb dX6_course_65 (by decide) (fun c_11 => ?_) (fun c_11 => ?_)
          · refine lv_iconst (v := 0) hx hb dX6_course_72 (by decide) ?_
            refine z_calli (va_runV (As := [.int 0]) (rest := []) ⟨hx, hb, hml, hown, hts⟩ (c6_fails0 l D cy base w0 y r B  ) (cwV 1 hts gX6_course_X6_fails rfl rfl rfl (by decide +kernel) ⟨Nat.le_of_ble_eq_true rfl, Nat.le_of_ble_eq_true rfl⟩) (z_preV hA hS hH (m_recv hA hH)) rfl rfl hl.1 rfl (lv_room (Nat.le_of_ble_eq_true rfl)) dX6_course_73 ⟨Nat.le_of_ble_eq_true rfl, Nat.le_of_ble_eq_true rfl⟩) hS (fun r_k_12 u_k_12 H locs hw_k_12 hH hz_k_12 hS => ?_)
            rcases hw_k_12 with ⟨rfl, hu_k_12⟩
            rw [hu_k_12] at hH
            refine lv_if_eq (tgt := 81) hx hb dX6_course_76 (by decide) (fun _ => ?_) (fun c_13 => absurd c_13 (by decide))
            refine lv_aload_n hx hb dX6_course_81 rfl (lv_at hl 1 rfl) ?_
            refine m_arr (f := 5) (by unfold mArr; decide) hx hb hts hi6 hown hA hH (hts (.fieldLink RX6 20 "ParoleCardsModel" "skills" "[I") (by decide +kernel)) rfl dX6_course_82 ?_
            refine lv_iload_n hx hb dX6_course_85 rfl (lv_at hl 2 rfl) ?_
            refine lv_dup2_11 hx hb dX6_course_86 rfl rfl ?_
            refine m_iald (f := 5) (v := (B 5 i)) (by unfold mArr; decide) rfl hx hb hA hH i rfl (by rw [show mLen 5 = 10 from rfl]; omega) rfl dX6_course_87 ?_
            refine lv_iconst (v := 1) hx hb dX6_course_88 (by decide) ?_
            refine lv_iload_n hx hb dX6_course_89 rfl (lv_at hl 3 rfl) ?_
            refine lv_ishl hx hb dX6_course_90 ?_
            refine lv_ior hx hb dX6_course_91 ?_
            refine m_iast (f := 5) (by unfold mArr; decide) rfl hx hb hA hH hS i rfl (by rw [show mLen 5 = 10 from rfl]; omega) dX6_course_92 (fun H locs hH hS => ?_)
            refine lv_aload_n hx hb dX6_course_93 rfl (lv_at hl 1 rfl) ?_
            refine m_arr (f := 8) (by unfold mArr; decide) hx hb hts hi6 hown hA hH (hts (.fieldLink RX6 29 "ParoleCardsModel" "gained" "[I") (by decide +kernel)) rfl dX6_course_94 ?_
            refine lv_iload_n hx hb dX6_course_97 rfl (lv_at hl 2 rfl) ?_
            refine lv_dup2_11 hx hb dX6_course_98 rfl rfl ?_
            refine m_iald (f := 8) (v := (B 8 i)) (by unfold mArr; decide) rfl hx hb hA hH i rfl (by rw [show mLen 8 = 10 from rfl]; omega) rfl dX6_course_99 ?_
            refine lv_iload_n hx hb dX6_course_100 rfl (lv_at hl 4 rfl) ?_
            refine lv_iadd hx hb dX6_course_101 ?_
            refine m_iast (f := 8) (by unfold mArr; decide) rfl hx hb hA hH hS i rfl (by rw [show mLen 8 = 10 from rfl]; omega) dX6_course_102 (fun H locs hH hS => ?_)
            refine lv_aload_n hx hb dX6_course_103 rfl (lv_at hl 1 rfl) ?_
            refine m_arr (f := 9) (by unfold mArr; decide) hx hb hts hi6 hown hA hH (hts (.fieldLink RX6 32 "ParoleCardsModel" "papers" "[I") (by decide +kernel)) rfl dX6_course_104 ?_
            refine lv_iload_n hx hb dX6_course_107 rfl (lv_at hl 2 rfl) ?_
            refine lv_dup2_11 hx hb dX6_course_108 rfl rfl ?_
            refine m_iald (f := 9) (v := (B 9 i)) (by unfold mArr; decide) rfl hx hb hA hH i rfl (by rw [show mLen 9 = 10 from rfl]; omega) rfl dX6_course_109 ?_
            refine lv_iconst (v := 1) hx hb dX6_course_110 (by decide) ?_
            refine lv_iadd hx hb dX6_course_111 ?_
            refine m_iast (f := 9) (by unfold mArr; decide) rfl hx hb hA hH hS i rfl (by rw [show mLen 9 = 10 from rfl]; omega) dX6_course_112 (fun H locs hH hS => ?_)
            refine lv_aload_n hx hb dX6_course_113 rfl (lv_at hl 1 rfl) ?_
            refine lv_iload_n hx hb dX6_course_114 rfl (lv_at hl 2 rfl) ?_
            refine z_callv (va_runV (As := [.int (nI i)]) (rest := []) ⟨hx, hb, hml, hown, hts⟩ (c6_raises l D cy base w0 y r (z2 (z2 (z2 (z2 B 27 0 0) 5 i ((B 5 i) ||| (1 <<< (what &&& 31)))) 8 i ((B 8 i) + days)) 9 i ((B 9 i) + 1)) i (by omega)) (cwV 1 hts gX6_course_X6_raises rfl rfl rfl (by decide +kernel) ⟨Nat.le_of_ble_eq_true rfl, Nat.le_of_ble_eq_true rfl⟩) (z_preV hA hS hH (m_recv hA hH)) rfl rfl hl.1 rfl (lv_room (Nat.le_of_ble_eq_true rfl)) dX6_course_115 ⟨Nat.le_of_ble_eq_true rfl, Nat.le_of_ble_eq_true rfl⟩) hS (fun u_k_14 H locs hw_k_14 hH hz_k_14 hS => ?_)
            have hu_k_14 := hw_k_14
            rw [hu_k_14] at hH
            refine lv_aload_n hx hb dX6_course_118 rfl (lv_at hl 1 rfl) ?_
            refine lv_iload_n hx hb dX6_course_119 rfl (lv_at hl 2 rfl) ?_
            refine z_calli (va_runV (As := [.int (nI i)]) (rest := []) ⟨hx, hb, hml, hown, hts⟩ (c6_releaseOf l D cy base w0 y r (z2 (z2 (z2 (z2 (z2 B 27 0 0) 5 i ((B 5 i) ||| (1 <<< (what &&& 31)))) 8 i ((B 8 i) + days)) 9 i ((B 9 i) + 1)) 6 i ((B 6 i) + (if (B 6 i) < 2 then 1 else 0))) i (by omega) h10 h50) (cwV 1 hts gX6_course_X6_releaseOf rfl rfl rfl (by decide +kernel) ⟨Nat.le_of_ble_eq_true rfl, Nat.le_of_ble_eq_true rfl⟩) (z_preV hA hS hH (m_recv hA hH)) rfl rfl hl.1 rfl (lv_room (Nat.le_of_ble_eq_true rfl)) dX6_course_120 ⟨Nat.le_of_ble_eq_true rfl, Nat.le_of_ble_eq_true rfl⟩) hS (fun r_k_15 u_k_15 H locs hw_k_15 hH hz_k_15 hS => ?_)
            rcases hw_k_15 with ⟨rfl, hu_k_15⟩
            rw [hu_k_15] at hH
            exact z_iret hx hb hr hlocks hH hS (by
              have hc : (cd_course B (nI i) what days) = 0 := by first | (simp [cd_course, h_k_3_0, h_k_6_0, c_8, c_11, hvP, hix]; done) | (simp_all [cd_course]; done)
              refine Or.inl ⟨hc, ?_, ?_⟩ <;> (simp [up_course, an_course, sRaise, z2_6_5, z2_6_8, z2_6_9, h_k_3_0, h_k_6_0, c_8, c_11, hvP, hix, z27_0, z27_1, z27_2, z27_3, z27_4, z27_5, z27_6, z27_7, z27_8, z27_9, z27_10, z27_11, z27_12, z27_13, z27_14, z27_15, z27_16, z27_17, z27_18, z27_19, z27_20, z27_21, z27_22, z27_23, z27_24, z27_25, z27_26, z27_oc, z27_ox, z27_kx, z27_nP, z27_nO]; done)) (by decide) (by decide) dX6_course_123
          · refine lv_iconst (v := 3) hx hb dX6_course_68 (by decide) ?_
            refine lv_goto (tgt := 73) hx hb dX6_course_69 (by decide) ?_
            refine z_calli (va_runV (As := [.int 3]) (rest := []) ⟨hx, hb, hml, hown, hts⟩ (c6_fails3 l D cy base w0 y r B  ) (cwV 1 hts gX6_course_X6_fails rfl rfl rfl (by decide +kernel) ⟨Nat.le_of_ble_eq_true rfl, Nat.le_of_ble_eq_true rfl⟩) (z_preV hA hS hH (m_recv hA hH)) rfl rfl hl.1 rfl (lv_room (Nat.le_of_ble_eq_true rfl)) dX6_course_73 ⟨Nat.le_of_ble_eq_true rfl, Nat.le_of_ble_eq_true rfl⟩) hS (fun r_k_16 u_k_16 H locs hw_k_16 hH hz_k_16 hS => ?_)
            rcases hw_k_16 with ⟨rfl, hu_k_16⟩
            rw [hu_k_16] at hH
            refine lv_if_eq (tgt := 81) hx hb dX6_course_76 (by decide) (fun c_17 => absurd c_17 (by decide)) (fun _ => ?_)
            refine lv_iconst (v := 0) hx hb dX6_course_79 (by decide) ?_
            exact z_iret hx hb hr hlocks hH hS (by
              have hc : (cd_course B (nI i) what days) = 3 := by first | (simp [cd_course, h_k_3_0, h_k_6_0, c_8, c_11, hvP, hix]; done) | (simp_all [cd_course]; done)
              exact Or.inr ⟨by rw [hc]; decide, by rw [hc]⟩) (by decide) (by decide) dX6_course_80
      · rw [hu_k_6] at hH
        refine lv_if_ne (tgt := 48) hx hb dX6_course_41 (by decide) (fun c_18 => absurd c_18 (by decide)) (fun _ => ?_)
        refine lv_iconst (v := 2) hx hb dX6_course_44 (by decide) ?_
        refine lv_goto (tgt := 73) hx hb dX6_course_45 (by decide) ?_
        refine z_calli (va_runV (As := [.int 2]) (rest := []) ⟨hx, hb, hml, hown, hts⟩ (c6_fails2 l D cy base w0 y r B  ) (cwV 1 hts gX6_course_X6_fails rfl rfl rfl (by decide +kernel) ⟨Nat.le_of_ble_eq_true rfl, Nat.le_of_ble_eq_true rfl⟩) (z_preV hA hS hH (m_recv hA hH)) rfl rfl hl.1 rfl (lv_room (Nat.le_of_ble_eq_true rfl)) dX6_course_73 ⟨Nat.le_of_ble_eq_true rfl, Nat.le_of_ble_eq_true rfl⟩) hS (fun r_k_19 u_k_19 H locs hw_k_19 hH hz_k_19 hS => ?_)
        rcases hw_k_19 with ⟨rfl, hu_k_19⟩
        rw [hu_k_19] at hH
        refine lv_if_eq (tgt := 81) hx hb dX6_course_76 (by decide) (fun c_20 => absurd c_20 (by decide)) (fun _ => ?_)
        refine lv_iconst (v := 0) hx hb dX6_course_79 (by decide) ?_
        exact z_iret hx hb hr hlocks hH hS (by
          have hc : (cd_course B (nI i) what days) = 2 := by first | (simp [cd_course, h_k_3_0, h_k_6_0, hvP, hix]; done) | (simp_all [cd_course]; done)
          exact Or.inr ⟨by rw [hc]; decide, by rw [hc]⟩) (by decide) (by decide) dX6_course_80
    · rw [hu_k_3] at hH
      refine lv_if_eq (tgt := 21) hx hb dX6_course_14 (by decide) (fun _ => ?_) (fun c_21 => absurd c_21 (by decide))
      refine lv_iconst (v := 0) hx hb dX6_course_21 (by decide) ?_
      refine lv_istore (lv' := [(4, .int 0), (0, .ref y), (1, .int (nI i)), (2, .int what), (3, .int days)]) hx hb dX6_course_22 hl (by decide) rfl (fun ls hl => ?_)
      refine lv_aload_n hx hb dX6_course_24 rfl (lv_at hl 1 rfl) ?_
      refine lv_iload hx hb dX6_course_25 (lv_at hl 0 rfl) ?_
      refine lv_if_ne (tgt := 34) hx hb dX6_course_27 (by decide) (fun c_22 => absurd c_22 (by decide)) (fun _ => ?_)
      refine lv_iconst (v := 1) hx hb dX6_course_30 (by decide) ?_
      refine lv_goto (tgt := 73) hx hb dX6_course_31 (by decide) ?_
      refine z_calli (va_runV (As := [.int 1]) (rest := []) ⟨hx, hb, hml, hown, hts⟩ (c6_fails1 l D cy base w0 y r B  ) (cwV 1 hts gX6_course_X6_fails rfl rfl rfl (by decide +kernel) ⟨Nat.le_of_ble_eq_true rfl, Nat.le_of_ble_eq_true rfl⟩) (z_preV hA hS hH (m_recv hA hH)) rfl rfl hl.1 rfl (lv_room (Nat.le_of_ble_eq_true rfl)) dX6_course_73 ⟨Nat.le_of_ble_eq_true rfl, Nat.le_of_ble_eq_true rfl⟩) hS (fun r_k_23 u_k_23 H locs hw_k_23 hH hz_k_23 hS => ?_)
      rcases hw_k_23 with ⟨rfl, hu_k_23⟩
      rw [hu_k_23] at hH
      refine lv_if_eq (tgt := 81) hx hb dX6_course_76 (by decide) (fun c_24 => absurd c_24 (by decide)) (fun _ => ?_)
      refine lv_iconst (v := 0) hx hb dX6_course_79 (by decide) ?_
      exact z_iret hx hb hr hlocks hH hS (by
        have hc : (cd_course B (nI i) what days) = 1 := by first | (simp [cd_course, h_k_3_0, hvP, hix]; done) | (simp_all [cd_course]; done)
        exact Or.inr ⟨by rw [hc]; decide, by rw [hc]⟩) (by decide) (by decide) dX6_course_80
  · refine lv_aload_n hx hb dX6_course_0 rfl (lv_at hl 0 rfl) ?_
    refine lv_iload_n hx hb dX6_course_1 rfl (lv_at hl 1 rfl) ?_
    refine z_calli (va_runV (As := [.int its]) (rest := []) ⟨hx, hb, hml, hown, hts⟩ (c6_isPerson_f l D cy base w0 y r B its hvP) (cwV 1 hts gX6_course_X6_isPerson rfl rfl rfl (by decide +kernel) ⟨Nat.le_of_ble_eq_true rfl, Nat.le_of_ble_eq_true rfl⟩) (z_preV hA hS hH (m_recv hA hH)) rfl rfl hl.1 rfl (lv_room (Nat.le_of_ble_eq_true rfl)) dX6_course_2 ⟨Nat.le_of_ble_eq_true rfl, Nat.le_of_ble_eq_true rfl⟩) hS (fun r_k_25 u_k_25 H locs hw_k_25 hH hz_k_25 hS => ?_)
    rcases hw_k_25 with ⟨rfl, hu_k_25⟩
    rw [hu_k_25] at hH
    refine lv_if_eq (tgt := 21) hx hb dX6_course_5 (by decide) (fun _ => ?_) (fun c_26 => absurd c_26 (by decide))
    refine lv_iconst (v := 0) hx hb dX6_course_21 (by decide) ?_
    refine lv_istore (lv' := [(4, .int 0), (0, .ref y), (1, .int its), (2, .int what), (3, .int days)]) hx hb dX6_course_22 hl (by decide) rfl (fun ls hl => ?_)
    refine lv_aload_n hx hb dX6_course_24 rfl (lv_at hl 1 rfl) ?_
    refine lv_iload hx hb dX6_course_25 (lv_at hl 0 rfl) ?_
    refine lv_if_ne (tgt := 34) hx hb dX6_course_27 (by decide) (fun c_27 => absurd c_27 (by decide)) (fun _ => ?_)
    refine lv_iconst (v := 1) hx hb dX6_course_30 (by decide) ?_
    refine lv_goto (tgt := 73) hx hb dX6_course_31 (by decide) ?_
    refine z_calli (va_runV (As := [.int 1]) (rest := []) ⟨hx, hb, hml, hown, hts⟩ (c6_fails1 l D cy base w0 y r B  ) (cwV 1 hts gX6_course_X6_fails rfl rfl rfl (by decide +kernel) ⟨Nat.le_of_ble_eq_true rfl, Nat.le_of_ble_eq_true rfl⟩) (z_preV hA hS hH (m_recv hA hH)) rfl rfl hl.1 rfl (lv_room (Nat.le_of_ble_eq_true rfl)) dX6_course_73 ⟨Nat.le_of_ble_eq_true rfl, Nat.le_of_ble_eq_true rfl⟩) hS (fun r_k_28 u_k_28 H locs hw_k_28 hH hz_k_28 hS => ?_)
    rcases hw_k_28 with ⟨rfl, hu_k_28⟩
    rw [hu_k_28] at hH
    refine lv_if_eq (tgt := 81) hx hb dX6_course_76 (by decide) (fun c_29 => absurd c_29 (by decide)) (fun _ => ?_)
    refine lv_iconst (v := 0) hx hb dX6_course_79 (by decide) ?_
    exact z_iret hx hb hr hlocks hH hS (by
      have hc : (cd_course B its what days) = 1 := by first | (simp [cd_course, hvP]; done) | (simp_all [cd_course]; done)
      exact Or.inr ⟨by rw [hc]; decide, by rw [hc]⟩) (by decide) (by decide) dX6_course_80
set_option maxHeartbeats 4000000 in
set_option maxRecDepth 100000 in
theorem c6_offence (l : Launch) (D : va_G) (cy : Nat → ClassId) (base : Nat) (w0 : zW) (y : Nat) (r : Nat → Nat) (B : Nat → Nat → Int32) (its : Int32) (days : Int32) (hinv : mInv B) : Met l yX6_offence wsX6_offence ({ frames := 2, cells := 0, slots := 0, locals := 43 }) (zPc D cy base (mH D cy base w0 y r) [.ref y, .int its, .int days] B) (zQi base (mH D cy base w0 y r) (fun (r0 : Int32) (u0 : Nat → Nat → Int32) => ((cd_offence B its days) = 0 ∧ r0 = (an_offence (z2 B 27 0 0) its) ∧ u0 = (up_offence (z2 B 27 0 0) its days)) ∨ (¬ (cd_offence B its days) = 0 ∧ u0 = (z2 B 27 0 (cd_offence B its days))))) 0 0 (fun q => base ≤ q) := by
  refine Met.ofW (cc := cX6_offence) (maxL := 4) (ret := (some .int)) (by decide) rfl ?_
  intro p e s m args below meth c s₁ B9 hml hv
  obtain ⟨rfl, hA, hH⟩ := hv
  have hx := B9.exec
  have hb := B9.bytes
  have hr := B9.returns
  have hts := atoms_spec (ws := wsX6_offence) B9.pre
  have hown : s.vm.findClass RX6 = some m.cls := findClass_of_methodNamed B9.named
  have hlocks := B9.notSynchronized
  have hi6 : ∀ w ∈ wsX60, w ∈ wsX6_offence := by decide +kernel
  have hS : va_S (fun q : Nat => base ≤ q) s.heap s.heap [] := va_S.rf
  have hl := lv_entry ([.ref y, .int its, .int days]) (n := 4) (Nat.le_of_ble_eq_true rfl)
  rw [lg_entry_eq]
  generalize (lg_sl ([.ref y, .int its, .int days]) ++ List.replicate (4 - (lg_sl ([.ref y, .int its, .int days])).length) Slot.unset).toArray = ls at hl ⊢
  have hl : lv_has ls 4 [(0, .ref y), (1, .int its), (2, .int days)] := hl
  rcases vP_split hinv its with ⟨i, rfl, hi, hi10, hvP, hix⟩ | hvP
  · obtain ⟨h10, h50⟩ := mInv_oc50 hinv hi
    refine lv_aload_n hx hb dX6_offence_0 rfl (lv_at hl 0 rfl) ?_
    refine lv_aload_n hx hb dX6_offence_1 rfl (lv_at hl 0 rfl) ?_
    refine lv_iload_n hx hb dX6_offence_2 rfl (lv_at hl 1 rfl) ?_
    refine z_calli (va_runV (As := [.int (nI i)]) (rest := [.ref y]) ⟨hx, hb, hml, hown, hts⟩ (c6_isPerson_t l D cy base w0 y r B i hvP) (cwV 1 hts gX6_offence_X6_isPerson rfl rfl rfl (by decide +kernel) ⟨Nat.le_of_ble_eq_true rfl, Nat.le_of_ble_eq_true rfl⟩) (z_preV hA hS hH (m_recv hA hH)) rfl rfl hl.1 rfl (lv_room (Nat.le_of_ble_eq_true rfl)) dX6_offence_3 ⟨Nat.le_of_ble_eq_true rfl, Nat.le_of_ble_eq_true rfl⟩) hS (fun r_k_1 u_k_1 H locs hw_k_1 hH hz_k_1 hS => ?_)
    rcases hw_k_1 with ⟨rfl, hu_k_1⟩
    rw [hu_k_1] at hH
    refine lv_if_ne (tgt := 13) hx hb dX6_offence_6 (by decide) (fun _ => ?_) (fun c_2 => absurd c_2 (by decide))
    refine lv_iload_n hx hb dX6_offence_13 rfl (lv_at hl 2 rfl) ?_
    refine lv_iconst (v := 0) hx hb dX6_offence_14 (by decide) ?_
    refine lv_bipush (v := 100) hx hb dX6_offence_15 (by decide) ?_
    refine z_calli (va_runS (As := [.int days, .int 0, .int 100]) (rest := [.ref y]) ⟨hx, hb, hml, hown, hts⟩ (c6_lies l D cy base w0 y r B days 0 100 ) (va_cwS 3 hts gX6_offence_X6_lies rfl rfl rfl (by decide +kernel) ⟨Nat.le_of_ble_eq_true rfl, Nat.le_of_ble_eq_true rfl⟩) (z_preS hA hS hH) rfl rfl hl.1 rfl (lv_room (Nat.le_of_ble_eq_true rfl)) dX6_offence_17 ⟨Nat.le_of_ble_eq_true rfl, Nat.le_of_ble_eq_true rfl⟩) hS (fun r_k_3 u_k_3 H locs hw_k_3 hH hz_k_3 hS => ?_)
    rcases hw_k_3 with ⟨h_k_3_0, rfl, hu_k_3⟩ | ⟨h_k_3_0, rfl, hu_k_3⟩
    · rw [hu_k_3] at hH
      refine lv_if_ne (tgt := 27) hx hb dX6_offence_20 (by decide) (fun _ => ?_) (fun c_4 => absurd c_4 (by decide))
      refine lv_aload_n hx hb dX6_offence_27 rfl (lv_at hl 0 rfl) ?_
      refine m_arr (f := 2) (by unfold mArr; decide) hx hb hts hi6 hown hA hH (hts (.fieldLink RX6 7 "ParoleCardsModel" "isOut" "[Z") (by decide +kernel)) rfl dX6_offence_28 ?_
      refine lv_iload_n hx hb dX6_offence_31 rfl (lv_at hl 1 rfl) ?_
      refine m_zald (f := 2) (v := (B 2 i)) (by unfold mArr; decide) rfl hx hb hA hH i rfl (by rw [show mLen 2 = 10 from rfl]; omega) rfl dX6_offence_32 ?_
      refine lv_if_ne (tgt := 47) hx hb dX6_offence_33 (by decide) (fun c_5 => ?_) (fun c_5 => ?_)
      · refine lv_iconst (v := 3) hx hb dX6_offence_47 (by decide) ?_
        refine lv_goto (tgt := 52) hx hb dX6_offence_48 (by decide) ?_
        refine z_calli (va_runV (As := [.int 3]) (rest := []) ⟨hx, hb, hml, hown, hts⟩ (c6_fails3 l D cy base w0 y r B  ) (cwV 1 hts gX6_offence_X6_fails rfl rfl rfl (by decide +kernel) ⟨Nat.le_of_ble_eq_true rfl, Nat.le_of_ble_eq_true rfl⟩) (z_preV hA hS hH (m_recv hA hH)) rfl rfl hl.1 rfl (lv_room (Nat.le_of_ble_eq_true rfl)) dX6_offence_52 ⟨Nat.le_of_ble_eq_true rfl, Nat.le_of_ble_eq_true rfl⟩) hS (fun r_k_6 u_k_6 H locs hw_k_6 hH hz_k_6 hS => ?_)
        rcases hw_k_6 with ⟨rfl, hu_k_6⟩
        rw [hu_k_6] at hH
        refine lv_if_eq (tgt := 60) hx hb dX6_offence_55 (by decide) (fun c_7 => absurd c_7 (by decide)) (fun _ => ?_)
        refine lv_iconst (v := 0) hx hb dX6_offence_58 (by decide) ?_
        exact z_iret hx hb hr hlocks hH hS (by
          have hc : (cd_offence B (nI i) days) = 3 := by first | (simp [cd_offence, h_k_3_0, c_5, hvP, hix]; done) | (simp_all [cd_offence]; done)
          exact Or.inr ⟨by rw [hc]; decide, by rw [hc]⟩) (by decide) (by decide) dX6_offence_59
      · refine lv_aload_n hx hb dX6_offence_36 rfl (lv_at hl 0 rfl) ?_
        refine m_arr (f := 9) (by unfold mArr; decide) hx hb hts hi6 hown hA hH (hts (.fieldLink RX6 32 "ParoleCardsModel" "papers" "[I") (by decide +kernel)) rfl dX6_offence_37 ?_
        refine lv_iload_n hx hb dX6_offence_40 rfl (lv_at hl 1 rfl) ?_
        refine m_iald (f := 9) (v := (B 9 i)) (by unfold mArr; decide) rfl hx hb hA hH i rfl (by rw [show mLen 9 = 10 from rfl]; omega) rfl dX6_offence_41 ?_
        refine lv_bipush (v := 50) hx hb dX6_offence_42 (by decide) ?_
        refine lv_icmp_ne (tgt := 51) hx hb dX6_offence_44 (by decide) (fun c_8 => ?_) (fun c_8 => ?_)
        · refine lv_iconst (v := 0) hx hb dX6_offence_51 (by decide) ?_
          refine z_calli (va_runV (As := [.int 0]) (rest := []) ⟨hx, hb, hml, hown, hts⟩ (c6_fails0 l D cy base w0 y r B  ) (cwV 1 hts gX6_offence_X6_fails rfl rfl rfl (by decide +kernel) ⟨Nat.le_of_ble_eq_true rfl, Nat.le_of_ble_eq_true rfl⟩) (z_preV hA hS hH (m_recv hA hH)) rfl rfl hl.1 rfl (lv_room (Nat.le_of_ble_eq_true rfl)) dX6_offence_52 ⟨Nat.le_of_ble_eq_true rfl, Nat.le_of_ble_eq_true rfl⟩) hS (fun r_k_9 u_k_9 H locs hw_k_9 hH hz_k_9 hS => ?_)
          rcases hw_k_9 with ⟨rfl, hu_k_9⟩
          rw [hu_k_9] at hH
          refine lv_if_eq (tgt := 60) hx hb dX6_offence_55 (by decide) (fun _ => ?_) (fun c_10 => absurd c_10 (by decide))
          have hlt := mInv_oc hinv hi c_8
          refine lv_bipush (v := 50) hx hb dX6_offence_60 (by decide) ?_
          refine lv_iload_n hx hb dX6_offence_62 rfl (lv_at hl 1 rfl) ?_
          refine lv_imul hx hb dX6_offence_63 ?_
          refine lv_aload_n hx hb dX6_offence_64 rfl (lv_at hl 0 rfl) ?_
          refine m_arr (f := 10) (by unfold mArr; decide) hx hb hts hi6 hown hA hH (hts (.fieldLink RX6 35 "ParoleCardsModel" "offences" "[I") (by decide +kernel)) rfl dX6_offence_65 ?_
          refine lv_iload_n hx hb dX6_offence_68 rfl (lv_at hl 1 rfl) ?_
          refine m_iald (f := 10) (v := (B 10 i)) (by unfold mArr; decide) rfl hx hb hA hH i rfl (by rw [show mLen 10 = 10 from rfl]; omega) rfl dX6_offence_69 ?_
          refine lv_iadd hx hb dX6_offence_70 ?_
          refine lv_istore_n (lv' := [(3, .int ((50 * (nI i)) + (B 10 i))), (0, .ref y), (1, .int (nI i)), (2, .int days)]) hx hb dX6_offence_71 rfl hl (by decide) rfl (fun ls hl => ?_)
          refine lv_aload_n hx hb dX6_offence_72 rfl (lv_at hl 1 rfl) ?_
          refine m_arr (f := 17) (by unfold mArr; decide) hx hb hts hi6 hown hA hH (hts (.fieldLink RX6 56 "ParoleCardsModel" "lost" "[I") (by decide +kernel)) rfl dX6_offence_73 ?_
          refine lv_iload_n hx hb dX6_offence_76 rfl (lv_at hl 0 rfl) ?_
          refine lv_iload_n hx hb dX6_offence_77 rfl (lv_at hl 3 rfl) ?_
          refine m_iast (f := 17) (by unfold mArr; decide) rfl hx hb hA hH hS (50 * i + oc B i) (by rw [h10, show (50 : Int32) = nI 50 from rfl, pk_mul, nI_add]) (by rw [show mLen 17 = 500 from rfl]; omega) dX6_offence_78 (fun H locs hH hS => ?_)
          refine lv_aload_n hx hb dX6_offence_79 rfl (lv_at hl 1 rfl) ?_
          refine m_arr (f := 18) (by unfold mArr; decide) hx hb hts hi6 hown hA hH (hts (.fieldLink RX6 59 "ParoleCardsModel" "lostOn" "[I") (by decide +kernel)) rfl dX6_offence_80 ?_
          refine lv_iload_n hx hb dX6_offence_83 rfl (lv_at hl 0 rfl) ?_
          refine lv_aload_n hx hb dX6_offence_84 rfl (lv_at hl 1 rfl) ?_
          refine m_num (f := 0) (v := (B 0 0)) (by unfold mNum; decide) hx hb hts hi6 hown hA hH (hts (.fieldLink RX6 101 "ParoleCardsModel" "today" "I") (by decide +kernel)) rfl dX6_offence_85 ?_
          refine m_iast (f := 18) (by unfold mArr; decide) rfl hx hb hA hH hS (50 * i + oc B i) (by rw [h10, show (50 : Int32) = nI 50 from rfl, pk_mul, nI_add]) (by rw [show mLen 18 = 500 from rfl]; omega) dX6_offence_88 (fun H locs hH hS => ?_)
          refine lv_aload_n hx hb dX6_offence_89 rfl (lv_at hl 1 rfl) ?_
          refine m_arr (f := 19) (by unfold mArr; decide) hx hb hts hi6 hown hA hH (hts (.fieldLink RX6 62 "ParoleCardsModel" "isLower" "[Z") (by decide +kernel)) rfl dX6_offence_90 ?_
          refine lv_iload_n hx hb dX6_offence_93 rfl (lv_at hl 0 rfl) ?_
          refine lv_aload_n hx hb dX6_offence_94 rfl (lv_at hl 1 rfl) ?_
          refine m_arr (f := 6) (by unfold mArr; decide) hx hb hts hi6 hown hA hH (hts (.fieldLink RX6 23 "ParoleCardsModel" "regime" "[I") (by decide +kernel)) rfl dX6_offence_95 ?_
          refine lv_iload_n hx hb dX6_offence_98 rfl (lv_at hl 2 rfl) ?_
          refine m_iald (f := 6) (v := (B 6 i)) (by unfold mArr; decide) rfl hx hb hA hH i rfl (by rw [show mLen 6 = 10 from rfl]; omega) rfl dX6_offence_99 ?_
          refine lv_if_le (tgt := 107) hx hb dX6_offence_100 (by decide) (fun c_11 => ?_) (fun c_11 => ?_)
          · refine lv_iconst (v := 0) hx hb dX6_offence_107 (by decide) ?_
            refine m_zast (f := 19) (by unfold mArr; decide) rfl hx hb hA hH hS rfl (50 * i + oc B i) (by rw [h10, show (50 : Int32) = nI 50 from rfl, pk_mul, nI_add]) (by rw [show mLen 19 = 500 from rfl]; omega) dX6_offence_108 (fun H locs hH hS => ?_)
            refine lv_aload_n hx hb dX6_offence_109 rfl (lv_at hl 1 rfl) ?_
            refine m_arr (f := 20) (by unfold mArr; decide) hx hb hts hi6 hown hA hH (hts (.fieldLink RX6 65 "ParoleCardsModel" "isAppealed" "[Z") (by decide +kernel)) rfl dX6_offence_110 ?_
            refine lv_iload_n hx hb dX6_offence_113 rfl (lv_at hl 0 rfl) ?_
            refine lv_iconst (v := 0) hx hb dX6_offence_114 (by decide) ?_
            refine m_zast (f := 20) (by unfold mArr; decide) rfl hx hb hA hH hS rfl (50 * i + oc B i) (by rw [h10, show (50 : Int32) = nI 50 from rfl, pk_mul, nI_add]) (by rw [show mLen 20 = 500 from rfl]; omega) dX6_offence_115 (fun H locs hH hS => ?_)
            refine lv_aload_n hx hb dX6_offence_116 rfl (lv_at hl 1 rfl) ?_
            refine m_arr (f := 6) (by unfold mArr; decide) hx hb hts hi6 hown hA hH (hts (.fieldLink RX6 23 "ParoleCardsModel" "regime" "[I") (by decide +kernel)) rfl dX6_offence_117 ?_
            refine lv_iload_n hx hb dX6_offence_120 rfl (lv_at hl 2 rfl) ?_
            refine lv_dup2_11 hx hb dX6_offence_121 rfl rfl ?_
            refine m_iald (f := 6) (v := (B 6 i)) (by unfold mArr; decide) rfl hx hb hA hH i rfl (by rw [show mLen 6 = 10 from rfl]; omega) rfl dX6_offence_122 ?_
            refine lv_aload_n hx hb dX6_offence_123 rfl (lv_at hl 1 rfl) ?_
            refine m_arr (f := 19) (by unfold mArr; decide) hx hb hts hi6 hown hA hH (hts (.fieldLink RX6 62 "ParoleCardsModel" "isLower" "[Z") (by decide +kernel)) rfl dX6_offence_124 ?_
            refine lv_iload_n hx hb dX6_offence_127 rfl (lv_at hl 0 rfl) ?_
            refine m_zald (f := 19) (v := 0) (by unfold mArr; decide) rfl hx hb hA hH (50 * i + oc B i) (by rw [h10, show (50 : Int32) = nI 50 from rfl, pk_mul, nI_add]) (by rw [show mLen 19 = 500 from rfl]; omega) (by simp [z2, va_up]) dX6_offence_128 ?_
            refine lv_if_eq (tgt := 136) hx hb dX6_offence_129 (by decide) (fun _ => ?_) (fun c_12 => absurd c_12 (by decide))
            refine lv_iconst (v := 0) hx hb dX6_offence_136 (by decide) ?_
            refine lv_isub hx hb dX6_offence_137 ?_
            refine m_iast (f := 6) (by unfold mArr; decide) rfl hx hb hA hH hS i rfl (by rw [show mLen 6 = 10 from rfl]; omega) dX6_offence_138 (fun H locs hH hS => ?_)
            refine lv_aload_n hx hb dX6_offence_139 rfl (lv_at hl 1 rfl) ?_
            refine m_arr (f := 11) (by unfold mArr; decide) hx hb hts hi6 hown hA hH (hts (.fieldLink RX6 38 "ParoleCardsModel" "on" "[I") (by decide +kernel)) rfl dX6_offence_140 ?_
            refine lv_iload_n hx hb dX6_offence_143 rfl (lv_at hl 2 rfl) ?_
            refine lv_iconst (v := (-1)) hx hb dX6_offence_144 (by decide) ?_
            refine m_iast (f := 11) (by unfold mArr; decide) rfl hx hb hA hH hS i rfl (by rw [show mLen 11 = 10 from rfl]; omega) dX6_offence_145 (fun H locs hH hS => ?_)
            refine lv_aload_n hx hb dX6_offence_146 rfl (lv_at hl 1 rfl) ?_
            refine m_arr (f := 9) (by unfold mArr; decide) hx hb hts hi6 hown hA hH (hts (.fieldLink RX6 32 "ParoleCardsModel" "papers" "[I") (by decide +kernel)) rfl dX6_offence_147 ?_
            refine lv_iload_n hx hb dX6_offence_150 rfl (lv_at hl 2 rfl) ?_
            refine lv_dup2_11 hx hb dX6_offence_151 rfl rfl ?_
            refine m_iald (f := 9) (v := (B 9 i)) (by unfold mArr; decide) rfl hx hb hA hH i rfl (by rw [show mLen 9 = 10 from rfl]; omega) rfl dX6_offence_152 ?_
            refine lv_iconst (v := 1) hx hb dX6_offence_153 (by decide) ?_
            refine lv_iadd hx hb dX6_offence_154 ?_
            refine m_iast (f := 9) (by unfold mArr; decide) rfl hx hb hA hH hS i rfl (by rw [show mLen 9 = 10 from rfl]; omega) dX6_offence_155 (fun H locs hH hS => ?_)
            refine lv_aload_n hx hb dX6_offence_156 rfl (lv_at hl 1 rfl) ?_
            refine m_arr (f := 10) (by unfold mArr; decide) hx hb hts hi6 hown hA hH (hts (.fieldLink RX6 35 "ParoleCardsModel" "offences" "[I") (by decide +kernel)) rfl dX6_offence_157 ?_
            refine lv_iload_n hx hb dX6_offence_160 rfl (lv_at hl 2 rfl) ?_
            refine lv_dup2_11 hx hb dX6_offence_161 rfl rfl ?_
            refine m_iald (f := 10) (v := (B 10 i)) (by unfold mArr; decide) rfl hx hb hA hH i rfl (by rw [show mLen 10 = 10 from rfl]; omega) rfl dX6_offence_162 ?_
            refine lv_iconst (v := 1) hx hb dX6_offence_163 (by decide) ?_
            refine lv_iadd hx hb dX6_offence_164 ?_
            refine m_iast (f := 10) (by unfold mArr; decide) rfl hx hb hA hH hS i rfl (by rw [show mLen 10 = 10 from rfl]; omega) dX6_offence_165 (fun H locs hH hS => ?_)
            refine lv_aload_n hx hb dX6_offence_166 rfl (lv_at hl 1 rfl) ?_
            refine m_arr (f := 10) (by unfold mArr; decide) hx hb hts hi6 hown hA hH (hts (.fieldLink RX6 35 "ParoleCardsModel" "offences" "[I") (by decide +kernel)) rfl dX6_offence_167 ?_
            refine lv_iload_n hx hb dX6_offence_170 rfl (lv_at hl 2 rfl) ?_
            refine m_iald (f := 10) (v := ((B 10 i) + 1)) (by unfold mArr; decide) rfl hx hb hA hH i rfl (by rw [show mLen 10 = 10 from rfl]; omega) (by simp [z2, va_up]) dX6_offence_171 ?_
            refine lv_iconst (v := 1) hx hb dX6_offence_172 (by decide) ?_
            refine lv_isub hx hb dX6_offence_173 ?_
            exact z_iret hx hb hr hlocks hH hS (by
              have hc : (cd_offence B (nI i) days) = 0 := by first | (simp [cd_offence, h_k_3_0, c_5, c_8, c_11, Int32.not_lt.mpr c_11, hvP, hix]; done) | (simp_all [cd_offence]; done)
              refine Or.inl ⟨hc, ?_, ?_⟩ <;> (simp [up_offence, an_offence, h_k_3_0, c_5, c_8, c_11, Int32.not_lt.mpr c_11, hvP, hix, z27_0, z27_1, z27_2, z27_3, z27_4, z27_5, z27_6, z27_7, z27_8, z27_9, z27_10, z27_11, z27_12, z27_13, z27_14, z27_15, z27_16, z27_17, z27_18, z27_19, z27_20, z27_21, z27_22, z27_23, z27_24, z27_25, z27_26, z27_oc, z27_ox, z27_kx, z27_nP, z27_nO]; done)) (by decide) (by decide) dX6_offence_174
          · refine lv_iconst (v := 1) hx hb dX6_offence_103 (by decide) ?_
            refine lv_goto (tgt := 108) hx hb dX6_offence_104 (by decide) ?_
            refine m_zast (f := 19) (by unfold mArr; decide) rfl hx hb hA hH hS rfl (50 * i + oc B i) (by rw [h10, show (50 : Int32) = nI 50 from rfl, pk_mul, nI_add]) (by rw [show mLen 19 = 500 from rfl]; omega) dX6_offence_108 (fun H locs hH hS => ?_)
            refine lv_aload_n hx hb dX6_offence_109 rfl (lv_at hl 1 rfl) ?_
            refine m_arr (f := 20) (by unfold mArr; decide) hx hb hts hi6 hown hA hH (hts (.fieldLink RX6 65 "ParoleCardsModel" "isAppealed" "[Z") (by decide +kernel)) rfl dX6_offence_110 ?_
            refine lv_iload_n hx hb dX6_offence_113 rfl (lv_at hl 0 rfl) ?_
            refine lv_iconst (v := 0) hx hb dX6_offence_114 (by decide) ?_
            refine m_zast (f := 20) (by unfold mArr; decide) rfl hx hb hA hH hS rfl (50 * i + oc B i) (by rw [h10, show (50 : Int32) = nI 50 from rfl, pk_mul, nI_add]) (by rw [show mLen 20 = 500 from rfl]; omega) dX6_offence_115 (fun H locs hH hS => ?_)
            refine lv_aload_n hx hb dX6_offence_116 rfl (lv_at hl 1 rfl) ?_
            refine m_arr (f := 6) (by unfold mArr; decide) hx hb hts hi6 hown hA hH (hts (.fieldLink RX6 23 "ParoleCardsModel" "regime" "[I") (by decide +kernel)) rfl dX6_offence_117 ?_
            refine lv_iload_n hx hb dX6_offence_120 rfl (lv_at hl 2 rfl) ?_
            refine lv_dup2_11 hx hb dX6_offence_121 rfl rfl ?_
            refine m_iald (f := 6) (v := (B 6 i)) (by unfold mArr; decide) rfl hx hb hA hH i rfl (by rw [show mLen 6 = 10 from rfl]; omega) rfl dX6_offence_122 ?_
            refine lv_aload_n hx hb dX6_offence_123 rfl (lv_at hl 1 rfl) ?_
            refine m_arr (f := 19) (by unfold mArr; decide) hx hb hts hi6 hown hA hH (hts (.fieldLink RX6 62 "ParoleCardsModel" "isLower" "[Z") (by decide +kernel)) rfl dX6_offence_124 ?_
            refine lv_iload_n hx hb dX6_offence_127 rfl (lv_at hl 0 rfl) ?_
            refine m_zald (f := 19) (v := 1) (by unfold mArr; decide) rfl hx hb hA hH (50 * i + oc B i) (by rw [h10, show (50 : Int32) = nI 50 from rfl, pk_mul, nI_add]) (by rw [show mLen 19 = 500 from rfl]; omega) (by simp [z2, va_up]) dX6_offence_128 ?_
            refine lv_if_eq (tgt := 136) hx hb dX6_offence_129 (by decide) (fun c_13 => absurd c_13 (by decide)) (fun _ => ?_)
            refine lv_iconst (v := 1) hx hb dX6_offence_132 (by decide) ?_
            refine lv_goto (tgt := 137) hx hb dX6_offence_133 (by decide) ?_
            refine lv_isub hx hb dX6_offence_137 ?_
            refine m_iast (f := 6) (by unfold mArr; decide) rfl hx hb hA hH hS i rfl (by rw [show mLen 6 = 10 from rfl]; omega) dX6_offence_138 (fun H locs hH hS => ?_)
            refine lv_aload_n hx hb dX6_offence_139 rfl (lv_at hl 1 rfl) ?_
            refine m_arr (f := 11) (by unfold mArr; decide) hx hb hts hi6 hown hA hH (hts (.fieldLink RX6 38 "ParoleCardsModel" "on" "[I") (by decide +kernel)) rfl dX6_offence_140 ?_
            refine lv_iload_n hx hb dX6_offence_143 rfl (lv_at hl 2 rfl) ?_
            refine lv_iconst (v := (-1)) hx hb dX6_offence_144 (by decide) ?_
            refine m_iast (f := 11) (by unfold mArr; decide) rfl hx hb hA hH hS i rfl (by rw [show mLen 11 = 10 from rfl]; omega) dX6_offence_145 (fun H locs hH hS => ?_)
            refine lv_aload_n hx hb dX6_offence_146 rfl (lv_at hl 1 rfl) ?_
            refine m_arr (f := 9) (by unfold mArr; decide) hx hb hts hi6 hown hA hH (hts (.fieldLink RX6 32 "ParoleCardsModel" "papers" "[I") (by decide +kernel)) rfl dX6_offence_147 ?_
            refine lv_iload_n hx hb dX6_offence_150 rfl (lv_at hl 2 rfl) ?_
            refine lv_dup2_11 hx hb dX6_offence_151 rfl rfl ?_
            refine m_iald (f := 9) (v := (B 9 i)) (by unfold mArr; decide) rfl hx hb hA hH i rfl (by rw [show mLen 9 = 10 from rfl]; omega) rfl dX6_offence_152 ?_
            refine lv_iconst (v := 1) hx hb dX6_offence_153 (by decide) ?_
            refine lv_iadd hx hb dX6_offence_154 ?_
            refine m_iast (f := 9) (by unfold mArr; decide) rfl hx hb hA hH hS i rfl (by rw [show mLen 9 = 10 from rfl]; omega) dX6_offence_155 (fun H locs hH hS => ?_)
            refine lv_aload_n hx hb dX6_offence_156 rfl (lv_at hl 1 rfl) ?_
            refine m_arr (f := 10) (by unfold mArr; decide) hx hb hts hi6 hown hA hH (hts (.fieldLink RX6 35 "ParoleCardsModel" "offences" "[I") (by decide +kernel)) rfl dX6_offence_157 ?_
            refine lv_iload_n hx hb dX6_offence_160 rfl (lv_at hl 2 rfl) ?_
            refine lv_dup2_11 hx hb dX6_offence_161 rfl rfl ?_
            refine m_iald (f := 10) (v := (B 10 i)) (by unfold mArr; decide) rfl hx hb hA hH i rfl (by rw [show mLen 10 = 10 from rfl]; omega) rfl dX6_offence_162 ?_
            refine lv_iconst (v := 1) hx hb dX6_offence_163 (by decide) ?_
            refine lv_iadd hx hb dX6_offence_164 ?_
            refine m_iast (f := 10) (by unfold mArr; decide) rfl hx hb hA hH hS i rfl (by rw [show mLen 10 = 10 from rfl]; omega) dX6_offence_165 (fun H locs hH hS => ?_)
            refine lv_aload_n hx hb dX6_offence_166 rfl (lv_at hl 1 rfl) ?_
            refine m_arr (f := 10) (by unfold mArr; decide) hx hb hts hi6 hown hA hH (hts (.fieldLink RX6 35 "ParoleCardsModel" "offences" "[I") (by decide +kernel)) rfl dX6_offence_167 ?_
            refine lv_iload_n hx hb dX6_offence_170 rfl (lv_at hl 2 rfl) ?_
            refine m_iald (f := 10) (v := ((B 10 i) + 1)) (by unfold mArr; decide) rfl hx hb hA hH i rfl (by rw [show mLen 10 = 10 from rfl]; omega) (by simp [z2, va_up]) dX6_offence_171 ?_
            refine lv_iconst (v := 1) hx hb dX6_offence_172 (by decide) ?_
            refine lv_isub hx hb dX6_offence_173 ?_
            exact z_iret hx hb hr hlocks hH hS (by
              have hc : (cd_offence B (nI i) days) = 0 := by first | (simp [cd_offence, h_k_3_0, c_5, c_8, c_11, Int32.not_le.mp c_11, hvP, hix]; done) | (simp_all [cd_offence]; done)
              refine Or.inl ⟨hc, ?_, ?_⟩ <;> (simp [up_offence, an_offence, h_k_3_0, c_5, c_8, c_11, Int32.not_le.mp c_11, hvP, hix, z27_0, z27_1, z27_2, z27_3, z27_4, z27_5, z27_6, z27_7, z27_8, z27_9, z27_10, z27_11, z27_12, z27_13, z27_14, z27_15, z27_16, z27_17, z27_18, z27_19, z27_20, z27_21, z27_22, z27_23, z27_24, z27_25, z27_26, z27_oc, z27_ox, z27_kx, z27_nP, z27_nO]; done)) (by decide) (by decide) dX6_offence_174
        · refine lv_iconst (v := 3) hx hb dX6_offence_47 (by decide) ?_
          refine lv_goto (tgt := 52) hx hb dX6_offence_48 (by decide) ?_
          refine z_calli (va_runV (As := [.int 3]) (rest := []) ⟨hx, hb, hml, hown, hts⟩ (c6_fails3 l D cy base w0 y r B  ) (cwV 1 hts gX6_offence_X6_fails rfl rfl rfl (by decide +kernel) ⟨Nat.le_of_ble_eq_true rfl, Nat.le_of_ble_eq_true rfl⟩) (z_preV hA hS hH (m_recv hA hH)) rfl rfl hl.1 rfl (lv_room (Nat.le_of_ble_eq_true rfl)) dX6_offence_52 ⟨Nat.le_of_ble_eq_true rfl, Nat.le_of_ble_eq_true rfl⟩) hS (fun r_k_14 u_k_14 H locs hw_k_14 hH hz_k_14 hS => ?_)
          rcases hw_k_14 with ⟨rfl, hu_k_14⟩
          rw [hu_k_14] at hH
          refine lv_if_eq (tgt := 60) hx hb dX6_offence_55 (by decide) (fun c_15 => absurd c_15 (by decide)) (fun _ => ?_)
          refine lv_iconst (v := 0) hx hb dX6_offence_58 (by decide) ?_
          exact z_iret hx hb hr hlocks hH hS (by
            have hc : (cd_offence B (nI i) days) = 3 := by first | (simp [cd_offence, h_k_3_0, c_5, c_8, hvP, hix]; done) | (simp_all [cd_offence]; done)
            exact Or.inr ⟨by rw [hc]; decide, by rw [hc]⟩) (by decide) (by decide) dX6_offence_59
    · rw [hu_k_3] at hH
      refine lv_if_ne (tgt := 27) hx hb dX6_offence_20 (by decide) (fun c_16 => absurd c_16 (by decide)) (fun _ => ?_)
      refine lv_iconst (v := 2) hx hb dX6_offence_23 (by decide) ?_
      refine lv_goto (tgt := 52) hx hb dX6_offence_24 (by decide) ?_
      refine z_calli (va_runV (As := [.int 2]) (rest := []) ⟨hx, hb, hml, hown, hts⟩ (c6_fails2 l D cy base w0 y r B  ) (cwV 1 hts gX6_offence_X6_fails rfl rfl rfl (by decide +kernel) ⟨Nat.le_of_ble_eq_true rfl, Nat.le_of_ble_eq_true rfl⟩) (z_preV hA hS hH (m_recv hA hH)) rfl rfl hl.1 rfl (lv_room (Nat.le_of_ble_eq_true rfl)) dX6_offence_52 ⟨Nat.le_of_ble_eq_true rfl, Nat.le_of_ble_eq_true rfl⟩) hS (fun r_k_17 u_k_17 H locs hw_k_17 hH hz_k_17 hS => ?_)
      rcases hw_k_17 with ⟨rfl, hu_k_17⟩
      rw [hu_k_17] at hH
      refine lv_if_eq (tgt := 60) hx hb dX6_offence_55 (by decide) (fun c_18 => absurd c_18 (by decide)) (fun _ => ?_)
      refine lv_iconst (v := 0) hx hb dX6_offence_58 (by decide) ?_
      exact z_iret hx hb hr hlocks hH hS (by
        have hc : (cd_offence B (nI i) days) = 2 := by first | (simp [cd_offence, h_k_3_0, hvP, hix]; done) | (simp_all [cd_offence]; done)
        exact Or.inr ⟨by rw [hc]; decide, by rw [hc]⟩) (by decide) (by decide) dX6_offence_59
  · refine lv_aload_n hx hb dX6_offence_0 rfl (lv_at hl 0 rfl) ?_
    refine lv_aload_n hx hb dX6_offence_1 rfl (lv_at hl 0 rfl) ?_
    refine lv_iload_n hx hb dX6_offence_2 rfl (lv_at hl 1 rfl) ?_
    refine z_calli (va_runV (As := [.int its]) (rest := [.ref y]) ⟨hx, hb, hml, hown, hts⟩ (c6_isPerson_f l D cy base w0 y r B its hvP) (cwV 1 hts gX6_offence_X6_isPerson rfl rfl rfl (by decide +kernel) ⟨Nat.le_of_ble_eq_true rfl, Nat.le_of_ble_eq_true rfl⟩) (z_preV hA hS hH (m_recv hA hH)) rfl rfl hl.1 rfl (lv_room (Nat.le_of_ble_eq_true rfl)) dX6_offence_3 ⟨Nat.le_of_ble_eq_true rfl, Nat.le_of_ble_eq_true rfl⟩) hS (fun r_k_19 u_k_19 H locs hw_k_19 hH hz_k_19 hS => ?_)
    rcases hw_k_19 with ⟨rfl, hu_k_19⟩
    rw [hu_k_19] at hH
    refine lv_if_ne (tgt := 13) hx hb dX6_offence_6 (by decide) (fun c_20 => absurd c_20 (by decide)) (fun _ => ?_)
    refine lv_iconst (v := 1) hx hb dX6_offence_9 (by decide) ?_
    refine lv_goto (tgt := 52) hx hb dX6_offence_10 (by decide) ?_
    refine z_calli (va_runV (As := [.int 1]) (rest := []) ⟨hx, hb, hml, hown, hts⟩ (c6_fails1 l D cy base w0 y r B  ) (cwV 1 hts gX6_offence_X6_fails rfl rfl rfl (by decide +kernel) ⟨Nat.le_of_ble_eq_true rfl, Nat.le_of_ble_eq_true rfl⟩) (z_preV hA hS hH (m_recv hA hH)) rfl rfl hl.1 rfl (lv_room (Nat.le_of_ble_eq_true rfl)) dX6_offence_52 ⟨Nat.le_of_ble_eq_true rfl, Nat.le_of_ble_eq_true rfl⟩) hS (fun r_k_21 u_k_21 H locs hw_k_21 hH hz_k_21 hS => ?_)
    rcases hw_k_21 with ⟨rfl, hu_k_21⟩
    rw [hu_k_21] at hH
    refine lv_if_eq (tgt := 60) hx hb dX6_offence_55 (by decide) (fun c_22 => absurd c_22 (by decide)) (fun _ => ?_)
    refine lv_iconst (v := 0) hx hb dX6_offence_58 (by decide) ?_
    exact z_iret hx hb hr hlocks hH hS (by
      have hc : (cd_offence B its days) = 1 := by first | (simp [cd_offence, hvP]; done) | (simp_all [cd_offence]; done)
      exact Or.inr ⟨by rw [hc]; decide, by rw [hc]⟩) (by decide) (by decide) dX6_offence_59
set_option maxHeartbeats 4000000 in
set_option maxRecDepth 100000 in
theorem c6_appeal (l : Launch) (D : va_G) (cy : Nat → ClassId) (base : Nat) (w0 : zW) (y : Nat) (r : Nat → Nat) (B : Nat → Nat → Int32) (its : Int32) (which : Int32) (hinv : mInv B) : Met l yX6_appeal wsX6_appeal ({ frames := 2, cells := 0, slots := 0, locals := 46 }) (zPc D cy base (mH D cy base w0 y r) [.ref y, .int its, .int which] B) (zQi base (mH D cy base w0 y r) (fun (r0 : Int32) (u0 : Nat → Nat → Int32) => ((cd_appeal B its which) = 0 ∧ r0 = (an_appeal (z2 B 27 0 0) its which) ∧ u0 = (up_appeal (z2 B 27 0 0) its which)) ∨ (¬ (cd_appeal B its which) = 0 ∧ u0 = (z2 B 27 0 (cd_appeal B its which))))) 0 0 (fun q => base ≤ q) := by
  refine Met.ofW (cc := cX6_appeal) (maxL := 5) (ret := (some .int)) (by decide) rfl ?_
  intro p e s m args below meth c s₁ B9 hml hv
  obtain ⟨rfl, hA, hH⟩ := hv
  have hx := B9.exec
  have hb := B9.bytes
  have hr := B9.returns
  have hts := atoms_spec (ws := wsX6_appeal) B9.pre
  have hown : s.vm.findClass RX6 = some m.cls := findClass_of_methodNamed B9.named
  have hlocks := B9.notSynchronized
  have hi6 : ∀ w ∈ wsX60, w ∈ wsX6_appeal := by decide +kernel
  have hS : va_S (fun q : Nat => base ≤ q) s.heap s.heap [] := va_S.rf
  have hl := lv_entry ([.ref y, .int its, .int which]) (n := 5) (Nat.le_of_ble_eq_true rfl)
  rw [lg_entry_eq]
  generalize (lg_sl ([.ref y, .int its, .int which]) ++ List.replicate (5 - (lg_sl ([.ref y, .int its, .int which])).length) Slot.unset).toArray = ls at hl ⊢
  have hl : lv_has ls 5 [(0, .ref y), (1, .int its), (2, .int which)] := hl
  rcases vP_split hinv its with ⟨i, rfl, hi, hi10, hvP, hix⟩ | hvP
  · obtain ⟨h10, h50⟩ := mInv_oc50 hinv hi
    rcases vLies_const (v := which) (n := oc B i) (by omega) (m := ((B 10 i) - 1)) (by rw [h10]) with ⟨k, rfl, hk3, hvK, hkx⟩ | hvK
    · refine lv_aload_n hx hb dX6_appeal_0 rfl (lv_at hl 0 rfl) ?_
      refine lv_iload_n hx hb dX6_appeal_1 rfl (lv_at hl 1 rfl) ?_
      refine z_calli (va_runV (As := [.int (nI i)]) (rest := []) ⟨hx, hb, hml, hown, hts⟩ (c6_isPerson_t l D cy base w0 y r B i hvP) (cwV 1 hts gX6_appeal_X6_isPerson rfl rfl rfl (by decide +kernel) ⟨Nat.le_of_ble_eq_true rfl, Nat.le_of_ble_eq_true rfl⟩) (z_preV hA hS hH (m_recv hA hH)) rfl rfl hl.1 rfl (lv_room (Nat.le_of_ble_eq_true rfl)) dX6_appeal_2 ⟨Nat.le_of_ble_eq_true rfl, Nat.le_of_ble_eq_true rfl⟩) hS (fun r_k_1 u_k_1 H locs hw_k_1 hH hz_k_1 hS => ?_)
      rcases hw_k_1 with ⟨rfl, hu_k_1⟩
      rw [hu_k_1] at hH
      refine lv_if_eq (tgt := 28) hx hb dX6_appeal_5 (by decide) (fun c_2 => absurd c_2 (by decide)) (fun _ => ?_)
      refine lv_iload_n hx hb dX6_appeal_8 rfl (lv_at hl 2 rfl) ?_
      refine lv_iconst (v := 0) hx hb dX6_appeal_9 (by decide) ?_
      refine lv_aload_n hx hb dX6_appeal_10 rfl (lv_at hl 0 rfl) ?_
      refine m_arr (f := 10) (by unfold mArr; decide) hx hb hts hi6 hown hA hH (hts (.fieldLink RX6 35 "ParoleCardsModel" "offences" "[I") (by decide +kernel)) rfl dX6_appeal_11 ?_
      refine lv_iload_n hx hb dX6_appeal_14 rfl (lv_at hl 1 rfl) ?_
      refine m_iald (f := 10) (v := (B 10 i)) (by unfold mArr; decide) rfl hx hb hA hH i rfl (by rw [show mLen 10 = 10 from rfl]; omega) rfl dX6_appeal_15 ?_
      refine lv_iconst (v := 1) hx hb dX6_appeal_16 (by decide) ?_
      refine lv_isub hx hb dX6_appeal_17 ?_
      refine z_calli (va_runS (As := [.int (nI k), .int 0, .int ((B 10 i) - 1)]) (rest := []) ⟨hx, hb, hml, hown, hts⟩ (c6_lies l D cy base w0 y r B (nI k) 0 ((B 10 i) - 1) ) (va_cwS 3 hts gX6_appeal_X6_lies rfl rfl rfl (by decide +kernel) ⟨Nat.le_of_ble_eq_true rfl, Nat.le_of_ble_eq_true rfl⟩) (z_preS hA hS hH) rfl rfl hl.1 rfl (lv_room (Nat.le_of_ble_eq_true rfl)) dX6_appeal_18 ⟨Nat.le_of_ble_eq_true rfl, Nat.le_of_ble_eq_true rfl⟩) hS (fun r_k_3 u_k_3 H locs hw_k_3 hH hz_k_3 hS => ?_)
      rcases hw_k_3 with ⟨h_k_3_0, rfl, hu_k_3⟩ | ⟨h_k_3_0, rfl, hu_k_3⟩
      · rw [hu_k_3] at hH
        refine lv_if_eq (tgt := 28) hx hb dX6_appeal_21 (by decide) (fun c_4 => absurd c_4 (by decide)) (fun _ => ?_)
        refine lv_iconst (v := 1) hx hb dX6_appeal_24 (by decide) ?_
        refine lv_goto (tgt := 29) hx hb dX6_appeal_25 (by decide) ?_
        refine lv_istore_n (lv' := [(3, .int 1), (0, .ref y), (1, .int (nI i)), (2, .int (nI k))]) hx hb dX6_appeal_29 rfl hl (by decide) rfl (fun ls hl => ?_)
        refine lv_iload_n hx hb dX6_appeal_30 rfl (lv_at hl 0 rfl) ?_
        refine lv_if_eq (tgt := 43) hx hb dX6_appeal_31 (by decide) (fun c_5 => absurd c_5 (by decide)) (fun _ => ?_)
        refine lv_bipush (v := 50) hx hb dX6_appeal_34 (by decide) ?_
        refine lv_iload_n hx hb dX6_appeal_36 rfl (lv_at hl 2 rfl) ?_
        refine lv_imul hx hb dX6_appeal_37 ?_
        refine lv_iload_n hx hb dX6_appeal_38 rfl (lv_at hl 3 rfl) ?_
        refine lv_iadd hx hb dX6_appeal_39 ?_
        refine lv_goto (tgt := 44) hx hb dX6_appeal_40 (by decide) ?_
        refine lv_istore (lv' := [(4, .int ((50 * (nI i)) + (nI k))), (3, .int 1), (0, .ref y), (1, .int (nI i)), (2, .int (nI k))]) hx hb dX6_appeal_44 hl (by decide) rfl (fun ls hl => ?_)
        refine lv_aload_n hx hb dX6_appeal_46 rfl (lv_at hl 2 rfl) ?_
        refine lv_iload_n hx hb dX6_appeal_47 rfl (lv_at hl 1 rfl) ?_
        refine lv_if_ne (tgt := 55) hx hb dX6_appeal_48 (by decide) (fun _ => ?_) (fun c_6 => absurd c_6 (by decide))
        refine lv_aload_n hx hb dX6_appeal_55 rfl (lv_at hl 2 rfl) ?_
        refine m_arr (f := 2) (by unfold mArr; decide) hx hb hts hi6 hown hA hH (hts (.fieldLink RX6 7 "ParoleCardsModel" "isOut" "[Z") (by decide +kernel)) rfl dX6_appeal_56 ?_
        refine lv_iload_n hx hb dX6_appeal_59 rfl (lv_at hl 3 rfl) ?_
        refine m_zald (f := 2) (v := (B 2 i)) (by unfold mArr; decide) rfl hx hb hA hH i rfl (by rw [show mLen 2 = 10 from rfl]; omega) rfl dX6_appeal_60 ?_
        refine lv_if_ne (tgt := 74) hx hb dX6_appeal_61 (by decide) (fun c_7 => ?_) (fun c_7 => ?_)
        · refine lv_iconst (v := 2) hx hb dX6_appeal_74 (by decide) ?_
          refine lv_goto (tgt := 79) hx hb dX6_appeal_75 (by decide) ?_
          refine z_calli (va_runV (As := [.int 2]) (rest := []) ⟨hx, hb, hml, hown, hts⟩ (c6_fails2 l D cy base w0 y r B  ) (cwV 1 hts gX6_appeal_X6_fails rfl rfl rfl (by decide +kernel) ⟨Nat.le_of_ble_eq_true rfl, Nat.le_of_ble_eq_true rfl⟩) (z_preV hA hS hH (m_recv hA hH)) rfl rfl hl.1 rfl (lv_room (Nat.le_of_ble_eq_true rfl)) dX6_appeal_79 ⟨Nat.le_of_ble_eq_true rfl, Nat.le_of_ble_eq_true rfl⟩) hS (fun r_k_8 u_k_8 H locs hw_k_8 hH hz_k_8 hS => ?_)
          rcases hw_k_8 with ⟨rfl, hu_k_8⟩
          rw [hu_k_8] at hH
          refine lv_if_eq (tgt := 87) hx hb dX6_appeal_82 (by decide) (fun c_9 => absurd c_9 (by decide)) (fun _ => ?_)
          refine lv_iconst (v := 0) hx hb dX6_appeal_85 (by decide) ?_
          exact z_iret hx hb hr hlocks hH hS (by
            have hc : (cd_appeal B (nI i) (nI k)) = 2 := by first | (simp [cd_appeal, h_k_3_0, c_7, hvP, hix, hvK, hkx]; done) | (simp_all [cd_appeal]; done)
            exact Or.inr ⟨by rw [hc]; decide, by rw [hc]⟩) (by decide) (by decide) dX6_appeal_86
        · refine lv_aload_n hx hb dX6_appeal_64 rfl (lv_at hl 2 rfl) ?_
          refine m_arr (f := 20) (by unfold mArr; decide) hx hb hts hi6 hown hA hH (hts (.fieldLink RX6 65 "ParoleCardsModel" "isAppealed" "[Z") (by decide +kernel)) rfl dX6_appeal_65 ?_
          refine lv_iload hx hb dX6_appeal_68 (lv_at hl 0 rfl) ?_
          refine m_zald (f := 20) (v := (B 20 (50 * i + k))) (by unfold mArr; decide) rfl hx hb hA hH (50 * i + k) (by simp only [show (4 : Int32) = nI 4 from rfl, show (0 : Int32) = nI 0 from rfl, show (1 : Int32) = nI 1 from rfl, show (2 : Int32) = nI 2 from rfl, show (3 : Int32) = nI 3 from rfl, show (50 : Int32) = nI 50 from rfl, pk_mul, nI_add]) (by rw [show mLen 20 = 500 from rfl]; omega) rfl dX6_appeal_70 ?_
          refine lv_if_eq (tgt := 78) hx hb dX6_appeal_71 (by decide) (fun c_10 => ?_) (fun c_10 => ?_)
          · refine lv_iconst (v := 0) hx hb dX6_appeal_78 (by decide) ?_
            refine z_calli (va_runV (As := [.int 0]) (rest := []) ⟨hx, hb, hml, hown, hts⟩ (c6_fails0 l D cy base w0 y r B  ) (cwV 1 hts gX6_appeal_X6_fails rfl rfl rfl (by decide +kernel) ⟨Nat.le_of_ble_eq_true rfl, Nat.le_of_ble_eq_true rfl⟩) (z_preV hA hS hH (m_recv hA hH)) rfl rfl hl.1 rfl (lv_room (Nat.le_of_ble_eq_true rfl)) dX6_appeal_79 ⟨Nat.le_of_ble_eq_true rfl, Nat.le_of_ble_eq_true rfl⟩) hS (fun r_k_11 u_k_11 H locs hw_k_11 hH hz_k_11 hS => ?_)
            rcases hw_k_11 with ⟨rfl, hu_k_11⟩
            rw [hu_k_11] at hH
            refine lv_if_eq (tgt := 87) hx hb dX6_appeal_82 (by decide) (fun _ => ?_) (fun c_12 => absurd c_12 (by decide))
            refine lv_aload_n hx hb dX6_appeal_87 rfl (lv_at hl 2 rfl) ?_
            refine m_arr (f := 20) (by unfold mArr; decide) hx hb hts hi6 hown hA hH (hts (.fieldLink RX6 65 "ParoleCardsModel" "isAppealed" "[Z") (by decide +kernel)) rfl dX6_appeal_88 ?_
            refine lv_iload hx hb dX6_appeal_91 (lv_at hl 0 rfl) ?_
            refine lv_iconst (v := 1) hx hb dX6_appeal_93 (by decide) ?_
            refine m_zast (f := 20) (by unfold mArr; decide) rfl hx hb hA hH hS rfl (50 * i + k) (by simp only [show (4 : Int32) = nI 4 from rfl, show (0 : Int32) = nI 0 from rfl, show (1 : Int32) = nI 1 from rfl, show (2 : Int32) = nI 2 from rfl, show (3 : Int32) = nI 3 from rfl, show (50 : Int32) = nI 50 from rfl, pk_mul, nI_add]) (by rw [show mLen 20 = 500 from rfl]; omega) dX6_appeal_94 (fun H locs hH hS => ?_)
            refine lv_aload_n hx hb dX6_appeal_95 rfl (lv_at hl 2 rfl) ?_
            refine m_arr (f := 19) (by unfold mArr; decide) hx hb hts hi6 hown hA hH (hts (.fieldLink RX6 62 "ParoleCardsModel" "isLower" "[Z") (by decide +kernel)) rfl dX6_appeal_96 ?_
            refine lv_iload hx hb dX6_appeal_99 (lv_at hl 0 rfl) ?_
            refine m_zald (f := 19) (v := (B 19 (50 * i + k))) (by unfold mArr; decide) rfl hx hb hA hH (50 * i + k) (by simp only [show (4 : Int32) = nI 4 from rfl, show (0 : Int32) = nI 0 from rfl, show (1 : Int32) = nI 1 from rfl, show (2 : Int32) = nI 2 from rfl, show (3 : Int32) = nI 3 from rfl, show (50 : Int32) = nI 50 from rfl, pk_mul, nI_add]) (by rw [show mLen 19 = 500 from rfl]; omega) rfl dX6_appeal_101 ?_
            refine lv_if_eq (tgt := 110) hx hb dX6_appeal_102 (by decide) (fun c_13 => ?_) (fun c_13 => ?_)
            · refine lv_aload_n hx hb dX6_appeal_110 rfl (lv_at hl 2 rfl) ?_
              refine lv_iload_n hx hb dX6_appeal_111 rfl (lv_at hl 3 rfl) ?_
              refine z_calli (va_runV (As := [.int (nI i)]) (rest := []) ⟨hx, hb, hml, hown, hts⟩ (c6_releaseOf l D cy base w0 y r (z2 (z2 B 27 0 0) 20 (50 * i + k) 1) i (by omega) h10 h50) (cwV 1 hts gX6_appeal_X6_releaseOf rfl rfl rfl (by decide +kernel) ⟨Nat.le_of_ble_eq_true rfl, Nat.le_of_ble_eq_true rfl⟩) (z_preV hA hS hH (m_recv hA hH)) rfl rfl hl.1 rfl (lv_room (Nat.le_of_ble_eq_true rfl)) dX6_appeal_112 ⟨Nat.le_of_ble_eq_true rfl, Nat.le_of_ble_eq_true rfl⟩) hS (fun r_k_14 u_k_14 H locs hw_k_14 hH hz_k_14 hS => ?_)
              rcases hw_k_14 with ⟨rfl, hu_k_14⟩
              rw [hu_k_14] at hH
              exact z_iret hx hb hr hlocks hH hS (by
                have hc : (cd_appeal B (nI i) (nI k)) = 0 := by first | (simp [cd_appeal, h_k_3_0, c_7, c_10, c_13, hvP, hix, hvK, hkx]; done) | (simp_all [cd_appeal]; done)
                refine Or.inl ⟨hc, ?_, ?_⟩ <;> (simp [up_appeal, an_appeal, sRaise, z2_6_20, h_k_3_0, c_7, c_10, c_13, hvP, hix, hvK, hkx, z27_0, z27_1, z27_2, z27_3, z27_4, z27_5, z27_6, z27_7, z27_8, z27_9, z27_10, z27_11, z27_12, z27_13, z27_14, z27_15, z27_16, z27_17, z27_18, z27_19, z27_20, z27_21, z27_22, z27_23, z27_24, z27_25, z27_26, z27_oc, z27_ox, z27_kx, z27_nP, z27_nO]; done)) (by decide) (by decide) dX6_appeal_115
            · refine lv_aload_n hx hb dX6_appeal_105 rfl (lv_at hl 2 rfl) ?_
              refine lv_iload_n hx hb dX6_appeal_106 rfl (lv_at hl 3 rfl) ?_
              refine z_callv (va_runV (As := [.int (nI i)]) (rest := []) ⟨hx, hb, hml, hown, hts⟩ (c6_raises l D cy base w0 y r (z2 (z2 B 27 0 0) 20 (50 * i + k) 1) i (by omega)) (cwV 1 hts gX6_appeal_X6_raises rfl rfl rfl (by decide +kernel) ⟨Nat.le_of_ble_eq_true rfl, Nat.le_of_ble_eq_true rfl⟩) (z_preV hA hS hH (m_recv hA hH)) rfl rfl hl.1 rfl (lv_room (Nat.le_of_ble_eq_true rfl)) dX6_appeal_107 ⟨Nat.le_of_ble_eq_true rfl, Nat.le_of_ble_eq_true rfl⟩) hS (fun u_k_15 H locs hw_k_15 hH hz_k_15 hS => ?_)
              have hu_k_15 := hw_k_15
              rw [hu_k_15] at hH
              refine lv_aload_n hx hb dX6_appeal_110 rfl (lv_at hl 2 rfl) ?_
              refine lv_iload_n hx hb dX6_appeal_111 rfl (lv_at hl 3 rfl) ?_
              refine z_calli (va_runV (As := [.int (nI i)]) (rest := []) ⟨hx, hb, hml, hown, hts⟩ (c6_releaseOf l D cy base w0 y r (z2 (z2 (z2 B 27 0 0) 20 (50 * i + k) 1) 6 i ((B 6 i) + (if (B 6 i) < 2 then 1 else 0))) i (by omega) h10 h50) (cwV 1 hts gX6_appeal_X6_releaseOf rfl rfl rfl (by decide +kernel) ⟨Nat.le_of_ble_eq_true rfl, Nat.le_of_ble_eq_true rfl⟩) (z_preV hA hS hH (m_recv hA hH)) rfl rfl hl.1 rfl (lv_room (Nat.le_of_ble_eq_true rfl)) dX6_appeal_112 ⟨Nat.le_of_ble_eq_true rfl, Nat.le_of_ble_eq_true rfl⟩) hS (fun r_k_16 u_k_16 H locs hw_k_16 hH hz_k_16 hS => ?_)
              rcases hw_k_16 with ⟨rfl, hu_k_16⟩
              rw [hu_k_16] at hH
              exact z_iret hx hb hr hlocks hH hS (by
                have hc : (cd_appeal B (nI i) (nI k)) = 0 := by first | (simp [cd_appeal, h_k_3_0, c_7, c_10, c_13, hvP, hix, hvK, hkx]; done) | (simp_all [cd_appeal]; done)
                refine Or.inl ⟨hc, ?_, ?_⟩ <;> (simp [up_appeal, an_appeal, sRaise, z2_6_20, h_k_3_0, c_7, c_10, c_13, hvP, hix, hvK, hkx, z27_0, z27_1, z27_2, z27_3, z27_4, z27_5, z27_6, z27_7, z27_8, z27_9, z27_10, z27_11, z27_12, z27_13, z27_14, z27_15, z27_16, z27_17, z27_18, z27_19, z27_20, z27_21, z27_22, z27_23, z27_24, z27_25, z27_26, z27_oc, z27_ox, z27_kx, z27_nP, z27_nO]; done)) (by decide) (by decide) dX6_appeal_115
          · refine lv_iconst (v := 2) hx hb dX6_appeal_74 (by decide) ?_
            refine lv_goto (tgt := 79) hx hb dX6_appeal_75 (by decide) ?_
            refine z_calli (va_runV (As := [.int 2]) (rest := []) ⟨hx, hb, hml, hown, hts⟩ (c6_fails2 l D cy base w0 y r B  ) (cwV 1 hts gX6_appeal_X6_fails rfl rfl rfl (by decide +kernel) ⟨Nat.le_of_ble_eq_true rfl, Nat.le_of_ble_eq_true rfl⟩) (z_preV hA hS hH (m_recv hA hH)) rfl rfl hl.1 rfl (lv_room (Nat.le_of_ble_eq_true rfl)) dX6_appeal_79 ⟨Nat.le_of_ble_eq_true rfl, Nat.le_of_ble_eq_true rfl⟩) hS (fun r_k_17 u_k_17 H locs hw_k_17 hH hz_k_17 hS => ?_)
            rcases hw_k_17 with ⟨rfl, hu_k_17⟩
            rw [hu_k_17] at hH
            refine lv_if_eq (tgt := 87) hx hb dX6_appeal_82 (by decide) (fun c_18 => absurd c_18 (by decide)) (fun _ => ?_)
            refine lv_iconst (v := 0) hx hb dX6_appeal_85 (by decide) ?_
            exact z_iret hx hb hr hlocks hH hS (by
              have hc : (cd_appeal B (nI i) (nI k)) = 2 := by first | (simp [cd_appeal, h_k_3_0, c_7, c_10, hvP, hix, hvK, hkx]; done) | (simp_all [cd_appeal]; done)
              exact Or.inr ⟨by rw [hc]; decide, by rw [hc]⟩) (by decide) (by decide) dX6_appeal_86
      · rw [hu_k_3] at hH
        exact absurd (hvK.symm.trans h_k_3_0) (by decide)
    · refine lv_aload_n hx hb dX6_appeal_0 rfl (lv_at hl 0 rfl) ?_
      refine lv_iload_n hx hb dX6_appeal_1 rfl (lv_at hl 1 rfl) ?_
      refine z_calli (va_runV (As := [.int (nI i)]) (rest := []) ⟨hx, hb, hml, hown, hts⟩ (c6_isPerson_t l D cy base w0 y r B i hvP) (cwV 1 hts gX6_appeal_X6_isPerson rfl rfl rfl (by decide +kernel) ⟨Nat.le_of_ble_eq_true rfl, Nat.le_of_ble_eq_true rfl⟩) (z_preV hA hS hH (m_recv hA hH)) rfl rfl hl.1 rfl (lv_room (Nat.le_of_ble_eq_true rfl)) dX6_appeal_2 ⟨Nat.le_of_ble_eq_true rfl, Nat.le_of_ble_eq_true rfl⟩) hS (fun r_k_19 u_k_19 H locs hw_k_19 hH hz_k_19 hS => ?_)
      rcases hw_k_19 with ⟨rfl, hu_k_19⟩
      rw [hu_k_19] at hH
      refine lv_if_eq (tgt := 28) hx hb dX6_appeal_5 (by decide) (fun c_20 => absurd c_20 (by decide)) (fun _ => ?_)
      refine lv_iload_n hx hb dX6_appeal_8 rfl (lv_at hl 2 rfl) ?_
      refine lv_iconst (v := 0) hx hb dX6_appeal_9 (by decide) ?_
      refine lv_aload_n hx hb dX6_appeal_10 rfl (lv_at hl 0 rfl) ?_
      refine m_arr (f := 10) (by unfold mArr; decide) hx hb hts hi6 hown hA hH (hts (.fieldLink RX6 35 "ParoleCardsModel" "offences" "[I") (by decide +kernel)) rfl dX6_appeal_11 ?_
      refine lv_iload_n hx hb dX6_appeal_14 rfl (lv_at hl 1 rfl) ?_
      refine m_iald (f := 10) (v := (B 10 i)) (by unfold mArr; decide) rfl hx hb hA hH i rfl (by rw [show mLen 10 = 10 from rfl]; omega) rfl dX6_appeal_15 ?_
      refine lv_iconst (v := 1) hx hb dX6_appeal_16 (by decide) ?_
      refine lv_isub hx hb dX6_appeal_17 ?_
      refine z_calli (va_runS (As := [.int which, .int 0, .int ((B 10 i) - 1)]) (rest := []) ⟨hx, hb, hml, hown, hts⟩ (c6_lies l D cy base w0 y r B which 0 ((B 10 i) - 1) ) (va_cwS 3 hts gX6_appeal_X6_lies rfl rfl rfl (by decide +kernel) ⟨Nat.le_of_ble_eq_true rfl, Nat.le_of_ble_eq_true rfl⟩) (z_preS hA hS hH) rfl rfl hl.1 rfl (lv_room (Nat.le_of_ble_eq_true rfl)) dX6_appeal_18 ⟨Nat.le_of_ble_eq_true rfl, Nat.le_of_ble_eq_true rfl⟩) hS (fun r_k_21 u_k_21 H locs hw_k_21 hH hz_k_21 hS => ?_)
      rcases hw_k_21 with ⟨h_k_21_0, rfl, hu_k_21⟩ | ⟨h_k_21_0, rfl, hu_k_21⟩
      · rw [hu_k_21] at hH
        exact absurd (hvK.symm.trans h_k_21_0) (by decide)
      · rw [hu_k_21] at hH
        refine lv_if_eq (tgt := 28) hx hb dX6_appeal_21 (by decide) (fun _ => ?_) (fun c_22 => absurd c_22 (by decide))
        refine lv_iconst (v := 0) hx hb dX6_appeal_28 (by decide) ?_
        refine lv_istore_n (lv' := [(3, .int 0), (0, .ref y), (1, .int (nI i)), (2, .int which)]) hx hb dX6_appeal_29 rfl hl (by decide) rfl (fun ls hl => ?_)
        refine lv_iload_n hx hb dX6_appeal_30 rfl (lv_at hl 0 rfl) ?_
        refine lv_if_eq (tgt := 43) hx hb dX6_appeal_31 (by decide) (fun _ => ?_) (fun c_23 => absurd c_23 (by decide))
        refine lv_iconst (v := 0) hx hb dX6_appeal_43 (by decide) ?_
        refine lv_istore (lv' := [(4, .int 0), (3, .int 0), (0, .ref y), (1, .int (nI i)), (2, .int which)]) hx hb dX6_appeal_44 hl (by decide) rfl (fun ls hl => ?_)
        refine lv_aload_n hx hb dX6_appeal_46 rfl (lv_at hl 2 rfl) ?_
        refine lv_iload_n hx hb dX6_appeal_47 rfl (lv_at hl 1 rfl) ?_
        refine lv_if_ne (tgt := 55) hx hb dX6_appeal_48 (by decide) (fun c_24 => absurd c_24 (by decide)) (fun _ => ?_)
        refine lv_iconst (v := 1) hx hb dX6_appeal_51 (by decide) ?_
        refine lv_goto (tgt := 79) hx hb dX6_appeal_52 (by decide) ?_
        refine z_calli (va_runV (As := [.int 1]) (rest := []) ⟨hx, hb, hml, hown, hts⟩ (c6_fails1 l D cy base w0 y r B  ) (cwV 1 hts gX6_appeal_X6_fails rfl rfl rfl (by decide +kernel) ⟨Nat.le_of_ble_eq_true rfl, Nat.le_of_ble_eq_true rfl⟩) (z_preV hA hS hH (m_recv hA hH)) rfl rfl hl.1 rfl (lv_room (Nat.le_of_ble_eq_true rfl)) dX6_appeal_79 ⟨Nat.le_of_ble_eq_true rfl, Nat.le_of_ble_eq_true rfl⟩) hS (fun r_k_25 u_k_25 H locs hw_k_25 hH hz_k_25 hS => ?_)
        rcases hw_k_25 with ⟨rfl, hu_k_25⟩
        rw [hu_k_25] at hH
        refine lv_if_eq (tgt := 87) hx hb dX6_appeal_82 (by decide) (fun c_26 => absurd c_26 (by decide)) (fun _ => ?_)
        refine lv_iconst (v := 0) hx hb dX6_appeal_85 (by decide) ?_
        exact z_iret hx hb hr hlocks hH hS (by
          have hc : (cd_appeal B (nI i) which) = 1 := by first | (simp [cd_appeal, h_k_21_0, hvP, hix, hvK]; done) | (simp_all [cd_appeal]; done)
          exact Or.inr ⟨by rw [hc]; decide, by rw [hc]⟩) (by decide) (by decide) dX6_appeal_86
  · refine lv_aload_n hx hb dX6_appeal_0 rfl (lv_at hl 0 rfl) ?_
    refine lv_iload_n hx hb dX6_appeal_1 rfl (lv_at hl 1 rfl) ?_
    refine z_calli (va_runV (As := [.int its]) (rest := []) ⟨hx, hb, hml, hown, hts⟩ (c6_isPerson_f l D cy base w0 y r B its hvP) (cwV 1 hts gX6_appeal_X6_isPerson rfl rfl rfl (by decide +kernel) ⟨Nat.le_of_ble_eq_true rfl, Nat.le_of_ble_eq_true rfl⟩) (z_preV hA hS hH (m_recv hA hH)) rfl rfl hl.1 rfl (lv_room (Nat.le_of_ble_eq_true rfl)) dX6_appeal_2 ⟨Nat.le_of_ble_eq_true rfl, Nat.le_of_ble_eq_true rfl⟩) hS (fun r_k_27 u_k_27 H locs hw_k_27 hH hz_k_27 hS => ?_)
    rcases hw_k_27 with ⟨rfl, hu_k_27⟩
    rw [hu_k_27] at hH
    refine lv_if_eq (tgt := 28) hx hb dX6_appeal_5 (by decide) (fun _ => ?_) (fun c_28 => absurd c_28 (by decide))
    refine lv_iconst (v := 0) hx hb dX6_appeal_28 (by decide) ?_
    refine lv_istore_n (lv' := [(3, .int 0), (0, .ref y), (1, .int its), (2, .int which)]) hx hb dX6_appeal_29 rfl hl (by decide) rfl (fun ls hl => ?_)
    refine lv_iload_n hx hb dX6_appeal_30 rfl (lv_at hl 0 rfl) ?_
    refine lv_if_eq (tgt := 43) hx hb dX6_appeal_31 (by decide) (fun _ => ?_) (fun c_29 => absurd c_29 (by decide))
    refine lv_iconst (v := 0) hx hb dX6_appeal_43 (by decide) ?_
    refine lv_istore (lv' := [(4, .int 0), (3, .int 0), (0, .ref y), (1, .int its), (2, .int which)]) hx hb dX6_appeal_44 hl (by decide) rfl (fun ls hl => ?_)
    refine lv_aload_n hx hb dX6_appeal_46 rfl (lv_at hl 2 rfl) ?_
    refine lv_iload_n hx hb dX6_appeal_47 rfl (lv_at hl 1 rfl) ?_
    refine lv_if_ne (tgt := 55) hx hb dX6_appeal_48 (by decide) (fun c_30 => absurd c_30 (by decide)) (fun _ => ?_)
    refine lv_iconst (v := 1) hx hb dX6_appeal_51 (by decide) ?_
    refine lv_goto (tgt := 79) hx hb dX6_appeal_52 (by decide) ?_
    refine z_calli (va_runV (As := [.int 1]) (rest := []) ⟨hx, hb, hml, hown, hts⟩ (c6_fails1 l D cy base w0 y r B  ) (cwV 1 hts gX6_appeal_X6_fails rfl rfl rfl (by decide +kernel) ⟨Nat.le_of_ble_eq_true rfl, Nat.le_of_ble_eq_true rfl⟩) (z_preV hA hS hH (m_recv hA hH)) rfl rfl hl.1 rfl (lv_room (Nat.le_of_ble_eq_true rfl)) dX6_appeal_79 ⟨Nat.le_of_ble_eq_true rfl, Nat.le_of_ble_eq_true rfl⟩) hS (fun r_k_31 u_k_31 H locs hw_k_31 hH hz_k_31 hS => ?_)
    rcases hw_k_31 with ⟨rfl, hu_k_31⟩
    rw [hu_k_31] at hH
    refine lv_if_eq (tgt := 87) hx hb dX6_appeal_82 (by decide) (fun c_32 => absurd c_32 (by decide)) (fun _ => ?_)
    refine lv_iconst (v := 0) hx hb dX6_appeal_85 (by decide) ?_
    exact z_iret hx hb hr hlocks hH hS (by
      have hc : (cd_appeal B its which) = 1 := by first | (simp [cd_appeal, hvP]; done) | (simp_all [cd_appeal]; done)
      exact Or.inr ⟨by rw [hc]; decide, by rw [hc]⟩) (by decide) (by decide) dX6_appeal_86
set_option maxHeartbeats 4000000 in
set_option maxRecDepth 100000 in
theorem c6_release (l : Launch) (D : va_G) (cy : Nat → ClassId) (base : Nat) (w0 : zW) (y : Nat) (r : Nat → Nat) (B : Nat → Nat → Int32) (its : Int32) (hinv : mInv B) : Met l yX6_release wsX6_release ({ frames := 2, cells := 0, slots := 0, locals := 46 }) (zPc D cy base (mH D cy base w0 y r) [.ref y, .int its] B) (zQi base (mH D cy base w0 y r) (fun (r0 : Int32) (u0 : Nat → Nat → Int32) => ((cd_P B its) = 0 ∧ r0 = (an_release (z2 B 27 0 0) its) ∧ u0 = ((z2 B 27 0 0))) ∨ (¬ (cd_P B its) = 0 ∧ u0 = (z2 B 27 0 (cd_P B its))))) 0 0 (fun q => base ≤ q) := by
  refine Met.ofW (cc := cX6_release) (maxL := 2) (ret := (some .int)) (by decide) rfl ?_
  intro p e s m args below meth c s₁ B9 hml hv
  obtain ⟨rfl, hA, hH⟩ := hv
  have hx := B9.exec
  have hb := B9.bytes
  have hr := B9.returns
  have hts := atoms_spec (ws := wsX6_release) B9.pre
  have hown : s.vm.findClass RX6 = some m.cls := findClass_of_methodNamed B9.named
  have hlocks := B9.notSynchronized
  have hS : va_S (fun q : Nat => base ≤ q) s.heap s.heap [] := va_S.rf
  have hl := lv_entry ([.ref y, .int its]) (n := 2) (Nat.le_of_ble_eq_true rfl)
  rw [lg_entry_eq]
  generalize (lg_sl ([.ref y, .int its]) ++ List.replicate (2 - (lg_sl ([.ref y, .int its])).length) Slot.unset).toArray = ls at hl ⊢
  have hl : lv_has ls 2 [(0, .ref y), (1, .int its)] := hl
  rcases vP_split hinv its with ⟨i, rfl, hi, hi10, hvP, hix⟩ | hvP
  · obtain ⟨h10, h50⟩ := mInv_oc50 hinv hi
    refine lv_aload_n hx hb dX6_release_0 rfl (lv_at hl 0 rfl) ?_
    refine lv_aload_n hx hb dX6_release_1 rfl (lv_at hl 0 rfl) ?_
    refine lv_iload_n hx hb dX6_release_2 rfl (lv_at hl 1 rfl) ?_
    refine z_calli (va_runV (As := [.int (nI i)]) (rest := [.ref y]) ⟨hx, hb, hml, hown, hts⟩ (c6_isPerson_t l D cy base w0 y r B i hvP) (cwV 1 hts gX6_release_X6_isPerson rfl rfl rfl (by decide +kernel) ⟨Nat.le_of_ble_eq_true rfl, Nat.le_of_ble_eq_true rfl⟩) (z_preV hA hS hH (m_recv hA hH)) rfl rfl hl.1 rfl (lv_room (Nat.le_of_ble_eq_true rfl)) dX6_release_3 ⟨Nat.le_of_ble_eq_true rfl, Nat.le_of_ble_eq_true rfl⟩) hS (fun r_k_1 u_k_1 H locs hw_k_1 hH hz_k_1 hS => ?_)
    rcases hw_k_1 with ⟨rfl, hu_k_1⟩
    rw [hu_k_1] at hH
    refine lv_if_eq (tgt := 13) hx hb dX6_release_6 (by decide) (fun c_2 => absurd c_2 (by decide)) (fun _ => ?_)
    refine lv_iconst (v := 0) hx hb dX6_release_9 (by decide) ?_
    refine lv_goto (tgt := 14) hx hb dX6_release_10 (by decide) ?_
    refine z_calli (va_runV (As := [.int 0]) (rest := []) ⟨hx, hb, hml, hown, hts⟩ (c6_fails0 l D cy base w0 y r B  ) (cwV 1 hts gX6_release_X6_fails rfl rfl rfl (by decide +kernel) ⟨Nat.le_of_ble_eq_true rfl, Nat.le_of_ble_eq_true rfl⟩) (z_preV hA hS hH (m_recv hA hH)) rfl rfl hl.1 rfl (lv_room (Nat.le_of_ble_eq_true rfl)) dX6_release_14 ⟨Nat.le_of_ble_eq_true rfl, Nat.le_of_ble_eq_true rfl⟩) hS (fun r_k_3 u_k_3 H locs hw_k_3 hH hz_k_3 hS => ?_)
    rcases hw_k_3 with ⟨rfl, hu_k_3⟩
    rw [hu_k_3] at hH
    refine lv_if_eq (tgt := 24) hx hb dX6_release_17 (by decide) (fun _ => ?_) (fun c_4 => absurd c_4 (by decide))
    refine lv_aload_n hx hb dX6_release_24 rfl (lv_at hl 0 rfl) ?_
    refine lv_iload_n hx hb dX6_release_25 rfl (lv_at hl 1 rfl) ?_
    refine z_calli (va_runV (As := [.int (nI i)]) (rest := []) ⟨hx, hb, hml, hown, hts⟩ (c6_releaseOf l D cy base w0 y r (z2 B 27 0 0) i (by omega) h10 h50) (cwV 1 hts gX6_release_X6_releaseOf rfl rfl rfl (by decide +kernel) ⟨Nat.le_of_ble_eq_true rfl, Nat.le_of_ble_eq_true rfl⟩) (z_preV hA hS hH (m_recv hA hH)) rfl rfl hl.1 rfl (lv_room (Nat.le_of_ble_eq_true rfl)) dX6_release_26 ⟨Nat.le_of_ble_eq_true rfl, Nat.le_of_ble_eq_true rfl⟩) hS (fun r_k_5 u_k_5 H locs hw_k_5 hH hz_k_5 hS => ?_)
    rcases hw_k_5 with ⟨rfl, hu_k_5⟩
    rw [hu_k_5] at hH
    exact z_iret hx hb hr hlocks hH hS (by
      have hc : (cd_P B (nI i)) = 0 := by first | (simp [cd_P, hvP, hix]; done) | (simp_all [cd_P]; done)
      refine Or.inl ⟨hc, ?_, ?_⟩ <;> (simp [an_release, hvP, hix, z27_0, z27_1, z27_2, z27_3, z27_4, z27_5, z27_6, z27_7, z27_8, z27_9, z27_10, z27_11, z27_12, z27_13, z27_14, z27_15, z27_16, z27_17, z27_18, z27_19, z27_20, z27_21, z27_22, z27_23, z27_24, z27_25, z27_26, z27_oc, z27_ox, z27_kx, z27_nP, z27_nO]; done)) (by decide) (by decide) dX6_release_29
  · refine lv_aload_n hx hb dX6_release_0 rfl (lv_at hl 0 rfl) ?_
    refine lv_aload_n hx hb dX6_release_1 rfl (lv_at hl 0 rfl) ?_
    refine lv_iload_n hx hb dX6_release_2 rfl (lv_at hl 1 rfl) ?_
    refine z_calli (va_runV (As := [.int its]) (rest := [.ref y]) ⟨hx, hb, hml, hown, hts⟩ (c6_isPerson_f l D cy base w0 y r B its hvP) (cwV 1 hts gX6_release_X6_isPerson rfl rfl rfl (by decide +kernel) ⟨Nat.le_of_ble_eq_true rfl, Nat.le_of_ble_eq_true rfl⟩) (z_preV hA hS hH (m_recv hA hH)) rfl rfl hl.1 rfl (lv_room (Nat.le_of_ble_eq_true rfl)) dX6_release_3 ⟨Nat.le_of_ble_eq_true rfl, Nat.le_of_ble_eq_true rfl⟩) hS (fun r_k_6 u_k_6 H locs hw_k_6 hH hz_k_6 hS => ?_)
    rcases hw_k_6 with ⟨rfl, hu_k_6⟩
    rw [hu_k_6] at hH
    refine lv_if_eq (tgt := 13) hx hb dX6_release_6 (by decide) (fun _ => ?_) (fun c_7 => absurd c_7 (by decide))
    refine lv_iconst (v := 1) hx hb dX6_release_13 (by decide) ?_
    refine z_calli (va_runV (As := [.int 1]) (rest := []) ⟨hx, hb, hml, hown, hts⟩ (c6_fails1 l D cy base w0 y r B  ) (cwV 1 hts gX6_release_X6_fails rfl rfl rfl (by decide +kernel) ⟨Nat.le_of_ble_eq_true rfl, Nat.le_of_ble_eq_true rfl⟩) (z_preV hA hS hH (m_recv hA hH)) rfl rfl hl.1 rfl (lv_room (Nat.le_of_ble_eq_true rfl)) dX6_release_14 ⟨Nat.le_of_ble_eq_true rfl, Nat.le_of_ble_eq_true rfl⟩) hS (fun r_k_8 u_k_8 H locs hw_k_8 hH hz_k_8 hS => ?_)
    rcases hw_k_8 with ⟨rfl, hu_k_8⟩
    rw [hu_k_8] at hH
    refine lv_if_eq (tgt := 24) hx hb dX6_release_17 (by decide) (fun c_9 => absurd c_9 (by decide)) (fun _ => ?_)
    refine lv_iconst (v := 0) hx hb dX6_release_20 (by decide) ?_
    refine lv_goto (tgt := 29) hx hb dX6_release_21 (by decide) ?_
    exact z_iret hx hb hr hlocks hH hS (by
      have hc : (cd_P B its) = 1 := by first | (simp [cd_P, hvP]; done) | (simp_all [cd_P]; done)
      exact Or.inr ⟨by rw [hc]; decide, by rw [hc]⟩) (by decide) (by decide) dX6_release_29
set_option maxHeartbeats 4000000 in
set_option maxRecDepth 100000 in
theorem c6_isIn (l : Launch) (D : va_G) (cy : Nat → ClassId) (base : Nat) (w0 : zW) (y : Nat) (r : Nat → Nat) (B : Nat → Nat → Int32) (its : Int32) (hinv : mInv B) : Met l yX6_isIn wsX6_isIn ({ frames := 2, cells := 0, slots := 0, locals := 43 }) (zPc D cy base (mH D cy base w0 y r) [.ref y, .int its] B) (zQi base (mH D cy base w0 y r) (fun (r0 : Int32) (u0 : Nat → Nat → Int32) => ((cd_P B its) = 0 ∧ r0 = (an_isIn (z2 B 27 0 0) its) ∧ u0 = ((z2 B 27 0 0))) ∨ (¬ (cd_P B its) = 0 ∧ u0 = (z2 B 27 0 (cd_P B its))))) 0 0 (fun q => base ≤ q) := by
  refine Met.ofW (cc := cX6_isIn) (maxL := 2) (ret := (some .boolean)) (by decide) rfl ?_
  intro p e s m args below meth c s₁ B9 hml hv
  obtain ⟨rfl, hA, hH⟩ := hv
  have hx := B9.exec
  have hb := B9.bytes
  have hr := B9.returns
  have hts := atoms_spec (ws := wsX6_isIn) B9.pre
  have hown : s.vm.findClass RX6 = some m.cls := findClass_of_methodNamed B9.named
  have hlocks := B9.notSynchronized
  have hi6 : ∀ w ∈ wsX60, w ∈ wsX6_isIn := by decide +kernel
  have hS : va_S (fun q : Nat => base ≤ q) s.heap s.heap [] := va_S.rf
  have hl := lv_entry ([.ref y, .int its]) (n := 2) (Nat.le_of_ble_eq_true rfl)
  rw [lg_entry_eq]
  generalize (lg_sl ([.ref y, .int its]) ++ List.replicate (2 - (lg_sl ([.ref y, .int its])).length) Slot.unset).toArray = ls at hl ⊢
  have hl : lv_has ls 2 [(0, .ref y), (1, .int its)] := hl
  rcases vP_split hinv its with ⟨i, rfl, hi, hi10, hvP, hix⟩ | hvP
  · obtain ⟨h10, h50⟩ := mInv_oc50 hinv hi
    refine lv_aload_n hx hb dX6_isIn_0 rfl (lv_at hl 0 rfl) ?_
    refine lv_aload_n hx hb dX6_isIn_1 rfl (lv_at hl 0 rfl) ?_
    refine lv_iload_n hx hb dX6_isIn_2 rfl (lv_at hl 1 rfl) ?_
    refine z_calli (va_runV (As := [.int (nI i)]) (rest := [.ref y]) ⟨hx, hb, hml, hown, hts⟩ (c6_isPerson_t l D cy base w0 y r B i hvP) (cwV 1 hts gX6_isIn_X6_isPerson rfl rfl rfl (by decide +kernel) ⟨Nat.le_of_ble_eq_true rfl, Nat.le_of_ble_eq_true rfl⟩) (z_preV hA hS hH (m_recv hA hH)) rfl rfl hl.1 rfl (lv_room (Nat.le_of_ble_eq_true rfl)) dX6_isIn_3 ⟨Nat.le_of_ble_eq_true rfl, Nat.le_of_ble_eq_true rfl⟩) hS (fun r_k_1 u_k_1 H locs hw_k_1 hH hz_k_1 hS => ?_)
    rcases hw_k_1 with ⟨rfl, hu_k_1⟩
    rw [hu_k_1] at hH
    refine lv_if_eq (tgt := 13) hx hb dX6_isIn_6 (by decide) (fun c_2 => absurd c_2 (by decide)) (fun _ => ?_)
    refine lv_iconst (v := 0) hx hb dX6_isIn_9 (by decide) ?_
    refine lv_goto (tgt := 14) hx hb dX6_isIn_10 (by decide) ?_
    refine z_calli (va_runV (As := [.int 0]) (rest := []) ⟨hx, hb, hml, hown, hts⟩ (c6_fails0 l D cy base w0 y r B  ) (cwV 1 hts gX6_isIn_X6_fails rfl rfl rfl (by decide +kernel) ⟨Nat.le_of_ble_eq_true rfl, Nat.le_of_ble_eq_true rfl⟩) (z_preV hA hS hH (m_recv hA hH)) rfl rfl hl.1 rfl (lv_room (Nat.le_of_ble_eq_true rfl)) dX6_isIn_14 ⟨Nat.le_of_ble_eq_true rfl, Nat.le_of_ble_eq_true rfl⟩) hS (fun r_k_3 u_k_3 H locs hw_k_3 hH hz_k_3 hS => ?_)
    rcases hw_k_3 with ⟨rfl, hu_k_3⟩
    rw [hu_k_3] at hH
    refine lv_if_ne (tgt := 33) hx hb dX6_isIn_17 (by decide) (fun c_4 => absurd c_4 (by decide)) (fun _ => ?_)
    refine lv_aload_n hx hb dX6_isIn_20 rfl (lv_at hl 0 rfl) ?_
    refine m_arr (f := 2) (by unfold mArr; decide) hx hb hts hi6 hown hA hH (hts (.fieldLink RX6 7 "ParoleCardsModel" "isOut" "[Z") (by decide +kernel)) rfl dX6_isIn_21 ?_
    refine lv_iload_n hx hb dX6_isIn_24 rfl (lv_at hl 1 rfl) ?_
    refine m_zald (f := 2) (v := (B 2 i)) (by unfold mArr; decide) rfl hx hb hA hH i rfl (by rw [show mLen 2 = 10 from rfl]; omega) rfl dX6_isIn_25 ?_
    refine lv_if_ne (tgt := 33) hx hb dX6_isIn_26 (by decide) (fun c_5 => ?_) (fun c_5 => ?_)
    · refine lv_iconst (v := 0) hx hb dX6_isIn_33 (by decide) ?_
      exact z_zret hx hb hr hlocks hH hS rfl (by
        have hc : (cd_P B (nI i)) = 0 := by first | (simp [cd_P, c_5, hvP, hix]; done) | (simp_all [cd_P]; done)
        refine Or.inl ⟨hc, ?_, ?_⟩ <;> (simp [an_isIn, c_5, hvP, hix, z27_0, z27_1, z27_2, z27_3, z27_4, z27_5, z27_6, z27_7, z27_8, z27_9, z27_10, z27_11, z27_12, z27_13, z27_14, z27_15, z27_16, z27_17, z27_18, z27_19, z27_20, z27_21, z27_22, z27_23, z27_24, z27_25, z27_26, z27_oc, z27_ox, z27_kx, z27_nP, z27_nO]; done)) (by decide) (by decide) dX6_isIn_34
    · refine lv_iconst (v := 1) hx hb dX6_isIn_29 (by decide) ?_
      refine lv_goto (tgt := 34) hx hb dX6_isIn_30 (by decide) ?_
      exact z_zret hx hb hr hlocks hH hS rfl (by
        have hc : (cd_P B (nI i)) = 0 := by first | (simp [cd_P, c_5, hvP, hix]; done) | (simp_all [cd_P]; done)
        refine Or.inl ⟨hc, ?_, ?_⟩ <;> (simp [an_isIn, c_5, hvP, hix, z27_0, z27_1, z27_2, z27_3, z27_4, z27_5, z27_6, z27_7, z27_8, z27_9, z27_10, z27_11, z27_12, z27_13, z27_14, z27_15, z27_16, z27_17, z27_18, z27_19, z27_20, z27_21, z27_22, z27_23, z27_24, z27_25, z27_26, z27_oc, z27_ox, z27_kx, z27_nP, z27_nO]; done)) (by decide) (by decide) dX6_isIn_34
  · refine lv_aload_n hx hb dX6_isIn_0 rfl (lv_at hl 0 rfl) ?_
    refine lv_aload_n hx hb dX6_isIn_1 rfl (lv_at hl 0 rfl) ?_
    refine lv_iload_n hx hb dX6_isIn_2 rfl (lv_at hl 1 rfl) ?_
    refine z_calli (va_runV (As := [.int its]) (rest := [.ref y]) ⟨hx, hb, hml, hown, hts⟩ (c6_isPerson_f l D cy base w0 y r B its hvP) (cwV 1 hts gX6_isIn_X6_isPerson rfl rfl rfl (by decide +kernel) ⟨Nat.le_of_ble_eq_true rfl, Nat.le_of_ble_eq_true rfl⟩) (z_preV hA hS hH (m_recv hA hH)) rfl rfl hl.1 rfl (lv_room (Nat.le_of_ble_eq_true rfl)) dX6_isIn_3 ⟨Nat.le_of_ble_eq_true rfl, Nat.le_of_ble_eq_true rfl⟩) hS (fun r_k_6 u_k_6 H locs hw_k_6 hH hz_k_6 hS => ?_)
    rcases hw_k_6 with ⟨rfl, hu_k_6⟩
    rw [hu_k_6] at hH
    refine lv_if_eq (tgt := 13) hx hb dX6_isIn_6 (by decide) (fun _ => ?_) (fun c_7 => absurd c_7 (by decide))
    refine lv_iconst (v := 1) hx hb dX6_isIn_13 (by decide) ?_
    refine z_calli (va_runV (As := [.int 1]) (rest := []) ⟨hx, hb, hml, hown, hts⟩ (c6_fails1 l D cy base w0 y r B  ) (cwV 1 hts gX6_isIn_X6_fails rfl rfl rfl (by decide +kernel) ⟨Nat.le_of_ble_eq_true rfl, Nat.le_of_ble_eq_true rfl⟩) (z_preV hA hS hH (m_recv hA hH)) rfl rfl hl.1 rfl (lv_room (Nat.le_of_ble_eq_true rfl)) dX6_isIn_14 ⟨Nat.le_of_ble_eq_true rfl, Nat.le_of_ble_eq_true rfl⟩) hS (fun r_k_8 u_k_8 H locs hw_k_8 hH hz_k_8 hS => ?_)
    rcases hw_k_8 with ⟨rfl, hu_k_8⟩
    rw [hu_k_8] at hH
    refine lv_if_ne (tgt := 33) hx hb dX6_isIn_17 (by decide) (fun _ => ?_) (fun c_9 => absurd c_9 (by decide))
    refine lv_iconst (v := 0) hx hb dX6_isIn_33 (by decide) ?_
    exact z_zret hx hb hr hlocks hH hS rfl (by
      have hc : (cd_P B its) = 1 := by first | (simp [cd_P, hvP]; done) | (simp_all [cd_P]; done)
      exact Or.inr ⟨by rw [hc]; decide, by rw [hc]⟩) (by decide) (by decide) dX6_isIn_34
set_option maxHeartbeats 4000000 in
set_option maxRecDepth 100000 in
theorem c6_regime (l : Launch) (D : va_G) (cy : Nat → ClassId) (base : Nat) (w0 : zW) (y : Nat) (r : Nat → Nat) (B : Nat → Nat → Int32) (its : Int32) (hinv : mInv B) : Met l yX6_regime wsX6_regime ({ frames := 3, cells := 0, slots := 0, locals := 65 }) (zPc D cy base (mH D cy base w0 y r) [.ref y, .int its] B) (zQi base (mH D cy base w0 y r) (fun (r0 : Int32) (u0 : Nat → Nat → Int32) => ((cd_P B its) = 0 ∧ r0 = (an_of (z2 B 27 0 0) 6 its) ∧ u0 = ((z2 B 27 0 0))) ∨ (¬ (cd_P B its) = 0 ∧ u0 = (z2 B 27 0 (cd_P B its))))) 0 0 (fun q => base ≤ q) := by
  refine Met.ofW (cc := cX6_regime) (maxL := 2) (ret := (some .int)) (by decide) rfl ?_
  intro p e s m args below meth c s₁ B9 hml hv
  obtain ⟨rfl, hA, hH⟩ := hv
  have hx := B9.exec
  have hb := B9.bytes
  have hr := B9.returns
  have hts := atoms_spec (ws := wsX6_regime) B9.pre
  have hown : s.vm.findClass RX6 = some m.cls := findClass_of_methodNamed B9.named
  have hlocks := B9.notSynchronized
  have hi6 : ∀ w ∈ wsX60, w ∈ wsX6_regime := by decide +kernel
  have hS : va_S (fun q : Nat => base ≤ q) s.heap s.heap [] := va_S.rf
  have hl := lv_entry ([.ref y, .int its]) (n := 2) (Nat.le_of_ble_eq_true rfl)
  rw [lg_entry_eq]
  generalize (lg_sl ([.ref y, .int its]) ++ List.replicate (2 - (lg_sl ([.ref y, .int its])).length) Slot.unset).toArray = ls at hl ⊢
  have hl : lv_has ls 2 [(0, .ref y), (1, .int its)] := hl
  rcases vP_split hinv its with ⟨i, rfl, hi, hi10, hvP, hix⟩ | hvP
  · obtain ⟨h10, h50⟩ := mInv_oc50 hinv hi
    refine lv_aload_n hx hb dX6_regime_0 rfl (lv_at hl 0 rfl) ?_
    refine lv_aload_n hx hb dX6_regime_1 rfl (lv_at hl 0 rfl) ?_
    refine m_arr (f := 6) (by unfold mArr; decide) hx hb hts hi6 hown hA hH (hts (.fieldLink RX6 23 "ParoleCardsModel" "regime" "[I") (by decide +kernel)) rfl dX6_regime_2 ?_
    refine lv_iload_n hx hb dX6_regime_5 rfl (lv_at hl 1 rfl) ?_
    refine z_calli (va_runV (As := [.ref (r 6), .int (nI i)]) (rest := []) ⟨hx, hb, hml, hown, hts⟩ (c6_of6_t l D cy base w0 y r B i (by omega) hvP) (cwV 2 hts gX6_regime_X6_of rfl rfl rfl (by decide +kernel) ⟨Nat.le_of_ble_eq_true rfl, Nat.le_of_ble_eq_true rfl⟩) (z_preV hA hS hH (m_recv hA hH)) rfl rfl hl.1 rfl (lv_room (Nat.le_of_ble_eq_true rfl)) dX6_regime_6 ⟨Nat.le_of_ble_eq_true rfl, Nat.le_of_ble_eq_true rfl⟩) hS (fun r_k_1 u_k_1 H locs hw_k_1 hH hz_k_1 hS => ?_)
    rcases hw_k_1 with ⟨rfl, hu_k_1⟩
    rw [hu_k_1] at hH
    exact z_iret hx hb hr hlocks hH hS (by
      have hc : (cd_P B (nI i)) = 0 := by first | (simp [cd_P, hvP, hix]; done) | (simp_all [cd_P]; done)
      refine Or.inl ⟨hc, ?_, ?_⟩ <;> (simp [an_of, hvP, hix, z27_0, z27_1, z27_2, z27_3, z27_4, z27_5, z27_6, z27_7, z27_8, z27_9, z27_10, z27_11, z27_12, z27_13, z27_14, z27_15, z27_16, z27_17, z27_18, z27_19, z27_20, z27_21, z27_22, z27_23, z27_24, z27_25, z27_26, z27_oc, z27_ox, z27_kx, z27_nP, z27_nO]; done)) (by decide) (by decide) dX6_regime_9
  · refine lv_aload_n hx hb dX6_regime_0 rfl (lv_at hl 0 rfl) ?_
    refine lv_aload_n hx hb dX6_regime_1 rfl (lv_at hl 0 rfl) ?_
    refine m_arr (f := 6) (by unfold mArr; decide) hx hb hts hi6 hown hA hH (hts (.fieldLink RX6 23 "ParoleCardsModel" "regime" "[I") (by decide +kernel)) rfl dX6_regime_2 ?_
    refine lv_iload_n hx hb dX6_regime_5 rfl (lv_at hl 1 rfl) ?_
    refine z_calli (va_runV (As := [.ref (r 6), .int its]) (rest := []) ⟨hx, hb, hml, hown, hts⟩ (c6_of6_f l D cy base w0 y r B its hvP) (cwV 2 hts gX6_regime_X6_of rfl rfl rfl (by decide +kernel) ⟨Nat.le_of_ble_eq_true rfl, Nat.le_of_ble_eq_true rfl⟩) (z_preV hA hS hH (m_recv hA hH)) rfl rfl hl.1 rfl (lv_room (Nat.le_of_ble_eq_true rfl)) dX6_regime_6 ⟨Nat.le_of_ble_eq_true rfl, Nat.le_of_ble_eq_true rfl⟩) hS (fun r_k_2 u_k_2 H locs hw_k_2 hH hz_k_2 hS => ?_)
    rcases hw_k_2 with ⟨rfl, hu_k_2⟩
    rw [hu_k_2] at hH
    exact z_iret hx hb hr hlocks hH hS (by
      have hc : (cd_P B its) = 1 := by first | (simp [cd_P, hvP]; done) | (simp_all [cd_P]; done)
      exact Or.inr ⟨by rw [hc]; decide, by rw [hc]⟩) (by decide) (by decide) dX6_regime_9
set_option maxHeartbeats 4000000 in
set_option maxRecDepth 100000 in
theorem c6_orderOf (l : Launch) (D : va_G) (cy : Nat → ClassId) (base : Nat) (w0 : zW) (y : Nat) (r : Nat → Nat) (B : Nat → Nat → Int32) (its : Int32) (hinv : mInv B) : Met l yX6_orderOf wsX6_orderOf ({ frames := 3, cells := 0, slots := 0, locals := 65 }) (zPc D cy base (mH D cy base w0 y r) [.ref y, .int its] B) (zQi base (mH D cy base w0 y r) (fun (r0 : Int32) (u0 : Nat → Nat → Int32) => ((cd_P B its) = 0 ∧ r0 = (an_of (z2 B 27 0 0) 11 its) ∧ u0 = ((z2 B 27 0 0))) ∨ (¬ (cd_P B its) = 0 ∧ u0 = (z2 B 27 0 (cd_P B its))))) 0 0 (fun q => base ≤ q) := by
  refine Met.ofW (cc := cX6_orderOf) (maxL := 2) (ret := (some .int)) (by decide) rfl ?_
  intro p e s m args below meth c s₁ B9 hml hv
  obtain ⟨rfl, hA, hH⟩ := hv
  have hx := B9.exec
  have hb := B9.bytes
  have hr := B9.returns
  have hts := atoms_spec (ws := wsX6_orderOf) B9.pre
  have hown : s.vm.findClass RX6 = some m.cls := findClass_of_methodNamed B9.named
  have hlocks := B9.notSynchronized
  have hi6 : ∀ w ∈ wsX60, w ∈ wsX6_orderOf := by decide +kernel
  have hS : va_S (fun q : Nat => base ≤ q) s.heap s.heap [] := va_S.rf
  have hl := lv_entry ([.ref y, .int its]) (n := 2) (Nat.le_of_ble_eq_true rfl)
  rw [lg_entry_eq]
  generalize (lg_sl ([.ref y, .int its]) ++ List.replicate (2 - (lg_sl ([.ref y, .int its])).length) Slot.unset).toArray = ls at hl ⊢
  have hl : lv_has ls 2 [(0, .ref y), (1, .int its)] := hl
  rcases vP_split hinv its with ⟨i, rfl, hi, hi10, hvP, hix⟩ | hvP
  · obtain ⟨h10, h50⟩ := mInv_oc50 hinv hi
    refine lv_aload_n hx hb dX6_orderOf_0 rfl (lv_at hl 0 rfl) ?_
    refine lv_aload_n hx hb dX6_orderOf_1 rfl (lv_at hl 0 rfl) ?_
    refine m_arr (f := 11) (by unfold mArr; decide) hx hb hts hi6 hown hA hH (hts (.fieldLink RX6 38 "ParoleCardsModel" "on" "[I") (by decide +kernel)) rfl dX6_orderOf_2 ?_
    refine lv_iload_n hx hb dX6_orderOf_5 rfl (lv_at hl 1 rfl) ?_
    refine z_calli (va_runV (As := [.ref (r 11), .int (nI i)]) (rest := []) ⟨hx, hb, hml, hown, hts⟩ (c6_of11_t l D cy base w0 y r B i (by omega) hvP) (cwV 2 hts gX6_orderOf_X6_of rfl rfl rfl (by decide +kernel) ⟨Nat.le_of_ble_eq_true rfl, Nat.le_of_ble_eq_true rfl⟩) (z_preV hA hS hH (m_recv hA hH)) rfl rfl hl.1 rfl (lv_room (Nat.le_of_ble_eq_true rfl)) dX6_orderOf_6 ⟨Nat.le_of_ble_eq_true rfl, Nat.le_of_ble_eq_true rfl⟩) hS (fun r_k_1 u_k_1 H locs hw_k_1 hH hz_k_1 hS => ?_)
    rcases hw_k_1 with ⟨rfl, hu_k_1⟩
    rw [hu_k_1] at hH
    exact z_iret hx hb hr hlocks hH hS (by
      have hc : (cd_P B (nI i)) = 0 := by first | (simp [cd_P, hvP, hix]; done) | (simp_all [cd_P]; done)
      refine Or.inl ⟨hc, ?_, ?_⟩ <;> (simp [an_of, hvP, hix, z27_0, z27_1, z27_2, z27_3, z27_4, z27_5, z27_6, z27_7, z27_8, z27_9, z27_10, z27_11, z27_12, z27_13, z27_14, z27_15, z27_16, z27_17, z27_18, z27_19, z27_20, z27_21, z27_22, z27_23, z27_24, z27_25, z27_26, z27_oc, z27_ox, z27_kx, z27_nP, z27_nO]; done)) (by decide) (by decide) dX6_orderOf_9
  · refine lv_aload_n hx hb dX6_orderOf_0 rfl (lv_at hl 0 rfl) ?_
    refine lv_aload_n hx hb dX6_orderOf_1 rfl (lv_at hl 0 rfl) ?_
    refine m_arr (f := 11) (by unfold mArr; decide) hx hb hts hi6 hown hA hH (hts (.fieldLink RX6 38 "ParoleCardsModel" "on" "[I") (by decide +kernel)) rfl dX6_orderOf_2 ?_
    refine lv_iload_n hx hb dX6_orderOf_5 rfl (lv_at hl 1 rfl) ?_
    refine z_calli (va_runV (As := [.ref (r 11), .int its]) (rest := []) ⟨hx, hb, hml, hown, hts⟩ (c6_of11_f l D cy base w0 y r B its hvP) (cwV 2 hts gX6_orderOf_X6_of rfl rfl rfl (by decide +kernel) ⟨Nat.le_of_ble_eq_true rfl, Nat.le_of_ble_eq_true rfl⟩) (z_preV hA hS hH (m_recv hA hH)) rfl rfl hl.1 rfl (lv_room (Nat.le_of_ble_eq_true rfl)) dX6_orderOf_6 ⟨Nat.le_of_ble_eq_true rfl, Nat.le_of_ble_eq_true rfl⟩) hS (fun r_k_2 u_k_2 H locs hw_k_2 hH hz_k_2 hS => ?_)
    rcases hw_k_2 with ⟨rfl, hu_k_2⟩
    rw [hu_k_2] at hH
    exact z_iret hx hb hr hlocks hH hS (by
      have hc : (cd_P B its) = 1 := by first | (simp [cd_P, hvP]; done) | (simp_all [cd_P]; done)
      exact Or.inr ⟨by rw [hc]; decide, by rw [hc]⟩) (by decide) (by decide) dX6_orderOf_9
set_option maxHeartbeats 4000000 in
set_option maxRecDepth 100000 in
theorem c6_paidOut (l : Launch) (D : va_G) (cy : Nat → ClassId) (base : Nat) (w0 : zW) (y : Nat) (r : Nat → Nat) (B : Nat → Nat → Int32) (its : Int32) (hinv : mInv B) : Met l yX6_paidOut wsX6_paidOut ({ frames := 3, cells := 0, slots := 0, locals := 65 }) (zPc D cy base (mH D cy base w0 y r) [.ref y, .int its] B) (zQi base (mH D cy base w0 y r) (fun (r0 : Int32) (u0 : Nat → Nat → Int32) => ((cd_P B its) = 0 ∧ r0 = (an_of (z2 B 27 0 0) 13 its) ∧ u0 = ((z2 B 27 0 0))) ∨ (¬ (cd_P B its) = 0 ∧ u0 = (z2 B 27 0 (cd_P B its))))) 0 0 (fun q => base ≤ q) := by
  refine Met.ofW (cc := cX6_paidOut) (maxL := 2) (ret := (some .int)) (by decide) rfl ?_
  intro p e s m args below meth c s₁ B9 hml hv
  obtain ⟨rfl, hA, hH⟩ := hv
  have hx := B9.exec
  have hb := B9.bytes
  have hr := B9.returns
  have hts := atoms_spec (ws := wsX6_paidOut) B9.pre
  have hown : s.vm.findClass RX6 = some m.cls := findClass_of_methodNamed B9.named
  have hlocks := B9.notSynchronized
  have hi6 : ∀ w ∈ wsX60, w ∈ wsX6_paidOut := by decide +kernel
  have hS : va_S (fun q : Nat => base ≤ q) s.heap s.heap [] := va_S.rf
  have hl := lv_entry ([.ref y, .int its]) (n := 2) (Nat.le_of_ble_eq_true rfl)
  rw [lg_entry_eq]
  generalize (lg_sl ([.ref y, .int its]) ++ List.replicate (2 - (lg_sl ([.ref y, .int its])).length) Slot.unset).toArray = ls at hl ⊢
  have hl : lv_has ls 2 [(0, .ref y), (1, .int its)] := hl
  rcases vP_split hinv its with ⟨i, rfl, hi, hi10, hvP, hix⟩ | hvP
  · obtain ⟨h10, h50⟩ := mInv_oc50 hinv hi
    refine lv_aload_n hx hb dX6_paidOut_0 rfl (lv_at hl 0 rfl) ?_
    refine lv_aload_n hx hb dX6_paidOut_1 rfl (lv_at hl 0 rfl) ?_
    refine m_arr (f := 13) (by unfold mArr; decide) hx hb hts hi6 hown hA hH (hts (.fieldLink RX6 44 "ParoleCardsModel" "paid" "[I") (by decide +kernel)) rfl dX6_paidOut_2 ?_
    refine lv_iload_n hx hb dX6_paidOut_5 rfl (lv_at hl 1 rfl) ?_
    refine z_calli (va_runV (As := [.ref (r 13), .int (nI i)]) (rest := []) ⟨hx, hb, hml, hown, hts⟩ (c6_of13_t l D cy base w0 y r B i (by omega) hvP) (cwV 2 hts gX6_paidOut_X6_of rfl rfl rfl (by decide +kernel) ⟨Nat.le_of_ble_eq_true rfl, Nat.le_of_ble_eq_true rfl⟩) (z_preV hA hS hH (m_recv hA hH)) rfl rfl hl.1 rfl (lv_room (Nat.le_of_ble_eq_true rfl)) dX6_paidOut_6 ⟨Nat.le_of_ble_eq_true rfl, Nat.le_of_ble_eq_true rfl⟩) hS (fun r_k_1 u_k_1 H locs hw_k_1 hH hz_k_1 hS => ?_)
    rcases hw_k_1 with ⟨rfl, hu_k_1⟩
    rw [hu_k_1] at hH
    exact z_iret hx hb hr hlocks hH hS (by
      have hc : (cd_P B (nI i)) = 0 := by first | (simp [cd_P, hvP, hix]; done) | (simp_all [cd_P]; done)
      refine Or.inl ⟨hc, ?_, ?_⟩ <;> (simp [an_of, hvP, hix, z27_0, z27_1, z27_2, z27_3, z27_4, z27_5, z27_6, z27_7, z27_8, z27_9, z27_10, z27_11, z27_12, z27_13, z27_14, z27_15, z27_16, z27_17, z27_18, z27_19, z27_20, z27_21, z27_22, z27_23, z27_24, z27_25, z27_26, z27_oc, z27_ox, z27_kx, z27_nP, z27_nO]; done)) (by decide) (by decide) dX6_paidOut_9
  · refine lv_aload_n hx hb dX6_paidOut_0 rfl (lv_at hl 0 rfl) ?_
    refine lv_aload_n hx hb dX6_paidOut_1 rfl (lv_at hl 0 rfl) ?_
    refine m_arr (f := 13) (by unfold mArr; decide) hx hb hts hi6 hown hA hH (hts (.fieldLink RX6 44 "ParoleCardsModel" "paid" "[I") (by decide +kernel)) rfl dX6_paidOut_2 ?_
    refine lv_iload_n hx hb dX6_paidOut_5 rfl (lv_at hl 1 rfl) ?_
    refine z_calli (va_runV (As := [.ref (r 13), .int its]) (rest := []) ⟨hx, hb, hml, hown, hts⟩ (c6_of13_f l D cy base w0 y r B its hvP) (cwV 2 hts gX6_paidOut_X6_of rfl rfl rfl (by decide +kernel) ⟨Nat.le_of_ble_eq_true rfl, Nat.le_of_ble_eq_true rfl⟩) (z_preV hA hS hH (m_recv hA hH)) rfl rfl hl.1 rfl (lv_room (Nat.le_of_ble_eq_true rfl)) dX6_paidOut_6 ⟨Nat.le_of_ble_eq_true rfl, Nat.le_of_ble_eq_true rfl⟩) hS (fun r_k_2 u_k_2 H locs hw_k_2 hH hz_k_2 hS => ?_)
    rcases hw_k_2 with ⟨rfl, hu_k_2⟩
    rw [hu_k_2] at hH
    exact z_iret hx hb hr hlocks hH hS (by
      have hc : (cd_P B its) = 1 := by first | (simp [cd_P, hvP]; done) | (simp_all [cd_P]; done)
      exact Or.inr ⟨by rw [hc]; decide, by rw [hc]⟩) (by decide) (by decide) dX6_paidOut_9
set_option maxHeartbeats 4000000 in
set_option maxRecDepth 100000 in
theorem c6_papers (l : Launch) (D : va_G) (cy : Nat → ClassId) (base : Nat) (w0 : zW) (y : Nat) (r : Nat → Nat) (B : Nat → Nat → Int32) (its : Int32) (lost : Int32) (hinv : mInv B) : Met l yX6_papers wsX6_papers ({ frames := 2, cells := 0, slots := 0, locals := 43 }) (zPc D cy base (mH D cy base w0 y r) [.ref y, .int its, .int lost] B) (zQi base (mH D cy base w0 y r) (fun (r0 : Int32) (u0 : Nat → Nat → Int32) => ((cd_P B its) = 0 ∧ r0 = (an_papers (z2 B 27 0 0) its lost) ∧ u0 = ((z2 B 27 0 0))) ∨ (¬ (cd_P B its) = 0 ∧ u0 = (z2 B 27 0 (cd_P B its))))) 0 0 (fun q => base ≤ q) := by
  refine Met.ofW (cc := cX6_papers) (maxL := 3) (ret := (some .int)) (by decide) rfl ?_
  intro p e s m args below meth c s₁ B9 hml hv
  obtain ⟨rfl, hA, hH⟩ := hv
  have hx := B9.exec
  have hb := B9.bytes
  have hr := B9.returns
  have hts := atoms_spec (ws := wsX6_papers) B9.pre
  have hown : s.vm.findClass RX6 = some m.cls := findClass_of_methodNamed B9.named
  have hlocks := B9.notSynchronized
  have hS : va_S (fun q : Nat => base ≤ q) s.heap s.heap [] := va_S.rf
  have hl := lv_entry ([.ref y, .int its, .int lost]) (n := 3) (Nat.le_of_ble_eq_true rfl)
  rw [lg_entry_eq]
  generalize (lg_sl ([.ref y, .int its, .int lost]) ++ List.replicate (3 - (lg_sl ([.ref y, .int its, .int lost])).length) Slot.unset).toArray = ls at hl ⊢
  have hl : lv_has ls 3 [(0, .ref y), (1, .int its), (2, .int lost)] := hl
  rcases vP_split hinv its with ⟨i, rfl, hi, hi10, hvP, hix⟩ | hvP
  · obtain ⟨h10, h50⟩ := mInv_oc50 hinv hi
    refine lv_aload_n hx hb dX6_papers_0 rfl (lv_at hl 0 rfl) ?_
    refine lv_aload_n hx hb dX6_papers_1 rfl (lv_at hl 0 rfl) ?_
    refine lv_iload_n hx hb dX6_papers_2 rfl (lv_at hl 1 rfl) ?_
    refine z_calli (va_runV (As := [.int (nI i)]) (rest := [.ref y]) ⟨hx, hb, hml, hown, hts⟩ (c6_isPerson_t l D cy base w0 y r B i hvP) (cwV 1 hts gX6_papers_X6_isPerson rfl rfl rfl (by decide +kernel) ⟨Nat.le_of_ble_eq_true rfl, Nat.le_of_ble_eq_true rfl⟩) (z_preV hA hS hH (m_recv hA hH)) rfl rfl hl.1 rfl (lv_room (Nat.le_of_ble_eq_true rfl)) dX6_papers_3 ⟨Nat.le_of_ble_eq_true rfl, Nat.le_of_ble_eq_true rfl⟩) hS (fun r_k_1 u_k_1 H locs hw_k_1 hH hz_k_1 hS => ?_)
    rcases hw_k_1 with ⟨rfl, hu_k_1⟩
    rw [hu_k_1] at hH
    refine lv_if_eq (tgt := 13) hx hb dX6_papers_6 (by decide) (fun c_2 => absurd c_2 (by decide)) (fun _ => ?_)
    refine lv_iconst (v := 0) hx hb dX6_papers_9 (by decide) ?_
    refine lv_goto (tgt := 14) hx hb dX6_papers_10 (by decide) ?_
    refine z_calli (va_runV (As := [.int 0]) (rest := []) ⟨hx, hb, hml, hown, hts⟩ (c6_fails0 l D cy base w0 y r B  ) (cwV 1 hts gX6_papers_X6_fails rfl rfl rfl (by decide +kernel) ⟨Nat.le_of_ble_eq_true rfl, Nat.le_of_ble_eq_true rfl⟩) (z_preV hA hS hH (m_recv hA hH)) rfl rfl hl.1 rfl (lv_room (Nat.le_of_ble_eq_true rfl)) dX6_papers_14 ⟨Nat.le_of_ble_eq_true rfl, Nat.le_of_ble_eq_true rfl⟩) hS (fun r_k_3 u_k_3 H locs hw_k_3 hH hz_k_3 hS => ?_)
    rcases hw_k_3 with ⟨rfl, hu_k_3⟩
    rw [hu_k_3] at hH
    refine lv_if_eq (tgt := 24) hx hb dX6_papers_17 (by decide) (fun _ => ?_) (fun c_4 => absurd c_4 (by decide))
    refine lv_iload_n hx hb dX6_papers_24 rfl (lv_at hl 2 rfl) ?_
    refine lv_if_eq (tgt := 36) hx hb dX6_papers_25 (by decide) (fun c_5 => ?_) (fun c_5 => ?_)
    · refine lv_aload_n hx hb dX6_papers_36 rfl (lv_at hl 0 rfl) ?_
      refine lv_iload_n hx hb dX6_papers_37 rfl (lv_at hl 1 rfl) ?_
      refine z_calli (va_runV (As := [.int (nI i)]) (rest := []) ⟨hx, hb, hml, hown, hts⟩ (c6_gains l D cy base w0 y r (z2 B 27 0 0) i (by omega)) (cwV 1 hts gX6_papers_X6_gains rfl rfl rfl (by decide +kernel) ⟨Nat.le_of_ble_eq_true rfl, Nat.le_of_ble_eq_true rfl⟩) (z_preV hA hS hH (m_recv hA hH)) rfl rfl hl.1 rfl (lv_room (Nat.le_of_ble_eq_true rfl)) dX6_papers_38 ⟨Nat.le_of_ble_eq_true rfl, Nat.le_of_ble_eq_true rfl⟩) hS (fun r_k_6 u_k_6 H locs hw_k_6 hH hz_k_6 hS => ?_)
      rcases hw_k_6 with ⟨rfl, hu_k_6⟩
      rw [hu_k_6] at hH
      exact z_iret hx hb hr hlocks hH hS (by
        have hc : (cd_P B (nI i)) = 0 := by first | (simp [cd_P, c_5, hvP, hix]; done) | (simp_all [cd_P]; done)
        refine Or.inl ⟨hc, ?_, ?_⟩ <;> (simp [an_papers, c_5, hvP, hix, z27_0, z27_1, z27_2, z27_3, z27_4, z27_5, z27_6, z27_7, z27_8, z27_9, z27_10, z27_11, z27_12, z27_13, z27_14, z27_15, z27_16, z27_17, z27_18, z27_19, z27_20, z27_21, z27_22, z27_23, z27_24, z27_25, z27_26, z27_oc, z27_ox, z27_kx, z27_nP, z27_nO]; done)) (by decide) (by decide) dX6_papers_41
    · refine lv_aload_n hx hb dX6_papers_28 rfl (lv_at hl 0 rfl) ?_
      refine lv_iload_n hx hb dX6_papers_29 rfl (lv_at hl 1 rfl) ?_
      refine z_calli (va_runV (As := [.int (nI i)]) (rest := []) ⟨hx, hb, hml, hown, hts⟩ (c6_loses l D cy base w0 y r (z2 B 27 0 0) i (by omega) h10 h50) (cwV 1 hts gX6_papers_X6_loses rfl rfl rfl (by decide +kernel) ⟨Nat.le_of_ble_eq_true rfl, Nat.le_of_ble_eq_true rfl⟩) (z_preV hA hS hH (m_recv hA hH)) rfl rfl hl.1 rfl (lv_room (Nat.le_of_ble_eq_true rfl)) dX6_papers_30 ⟨Nat.le_of_ble_eq_true rfl, Nat.le_of_ble_eq_true rfl⟩) hS (fun r_k_7 u_k_7 H locs hw_k_7 hH hz_k_7 hS => ?_)
      rcases hw_k_7 with ⟨rfl, hu_k_7⟩
      rw [hu_k_7] at hH
      refine lv_goto (tgt := 41) hx hb dX6_papers_33 (by decide) ?_
      exact z_iret hx hb hr hlocks hH hS (by
        have hc : (cd_P B (nI i)) = 0 := by first | (simp [cd_P, c_5, hvP, hix]; done) | (simp_all [cd_P]; done)
        refine Or.inl ⟨hc, ?_, ?_⟩ <;> (simp [an_papers, c_5, hvP, hix, z27_0, z27_1, z27_2, z27_3, z27_4, z27_5, z27_6, z27_7, z27_8, z27_9, z27_10, z27_11, z27_12, z27_13, z27_14, z27_15, z27_16, z27_17, z27_18, z27_19, z27_20, z27_21, z27_22, z27_23, z27_24, z27_25, z27_26, z27_oc, z27_ox, z27_kx, z27_nP, z27_nO]; done)) (by decide) (by decide) dX6_papers_41
  · refine lv_aload_n hx hb dX6_papers_0 rfl (lv_at hl 0 rfl) ?_
    refine lv_aload_n hx hb dX6_papers_1 rfl (lv_at hl 0 rfl) ?_
    refine lv_iload_n hx hb dX6_papers_2 rfl (lv_at hl 1 rfl) ?_
    refine z_calli (va_runV (As := [.int its]) (rest := [.ref y]) ⟨hx, hb, hml, hown, hts⟩ (c6_isPerson_f l D cy base w0 y r B its hvP) (cwV 1 hts gX6_papers_X6_isPerson rfl rfl rfl (by decide +kernel) ⟨Nat.le_of_ble_eq_true rfl, Nat.le_of_ble_eq_true rfl⟩) (z_preV hA hS hH (m_recv hA hH)) rfl rfl hl.1 rfl (lv_room (Nat.le_of_ble_eq_true rfl)) dX6_papers_3 ⟨Nat.le_of_ble_eq_true rfl, Nat.le_of_ble_eq_true rfl⟩) hS (fun r_k_8 u_k_8 H locs hw_k_8 hH hz_k_8 hS => ?_)
    rcases hw_k_8 with ⟨rfl, hu_k_8⟩
    rw [hu_k_8] at hH
    refine lv_if_eq (tgt := 13) hx hb dX6_papers_6 (by decide) (fun _ => ?_) (fun c_9 => absurd c_9 (by decide))
    refine lv_iconst (v := 1) hx hb dX6_papers_13 (by decide) ?_
    refine z_calli (va_runV (As := [.int 1]) (rest := []) ⟨hx, hb, hml, hown, hts⟩ (c6_fails1 l D cy base w0 y r B  ) (cwV 1 hts gX6_papers_X6_fails rfl rfl rfl (by decide +kernel) ⟨Nat.le_of_ble_eq_true rfl, Nat.le_of_ble_eq_true rfl⟩) (z_preV hA hS hH (m_recv hA hH)) rfl rfl hl.1 rfl (lv_room (Nat.le_of_ble_eq_true rfl)) dX6_papers_14 ⟨Nat.le_of_ble_eq_true rfl, Nat.le_of_ble_eq_true rfl⟩) hS (fun r_k_10 u_k_10 H locs hw_k_10 hH hz_k_10 hS => ?_)
    rcases hw_k_10 with ⟨rfl, hu_k_10⟩
    rw [hu_k_10] at hH
    refine lv_if_eq (tgt := 24) hx hb dX6_papers_17 (by decide) (fun c_11 => absurd c_11 (by decide)) (fun _ => ?_)
    refine lv_iconst (v := 0) hx hb dX6_papers_20 (by decide) ?_
    refine lv_goto (tgt := 41) hx hb dX6_papers_21 (by decide) ?_
    exact z_iret hx hb hr hlocks hH hS (by
      have hc : (cd_P B its) = 1 := by first | (simp [cd_P, hvP]; done) | (simp_all [cd_P]; done)
      exact Or.inr ⟨by rw [hc]; decide, by rw [hc]⟩) (by decide) (by decide) dX6_papers_41
set_option maxHeartbeats 4000000 in
set_option maxRecDepth 100000 in
theorem c6_setTools (l : Launch) (D : va_G) (cy : Nat → ClassId) (base : Nat) (w0 : zW) (y : Nat) (r : Nat → Nat) (B : Nat → Nat → Int32) (k9 : Int32) (n : Int32) (hinv : mInv B) : Met l yX6_setTools wsX6_setTools ({ frames := 2, cells := 0, slots := 0, locals := 42 }) (zPc D cy base (mH D cy base w0 y r) [.ref y, .int k9, .int n] B) (zQi base (mH D cy base w0 y r) (fun (r0 : Int32) (u0 : Nat → Nat → Int32) => ((cd_setTools B k9 n) = 0 ∧ r0 = (an_setTools (z2 B 27 0 0) k9) ∧ u0 = (up_setTools (z2 B 27 0 0) k9 n)) ∨ (¬ (cd_setTools B k9 n) = 0 ∧ u0 = (z2 B 27 0 (cd_setTools B k9 n))))) 0 0 (fun q => base ≤ q) := by
  refine Met.ofW (cc := cX6_setTools) (maxL := 4) (ret := (some .int)) (by decide) rfl ?_
  intro p e s m args below meth c s₁ B9 hml hv
  obtain ⟨rfl, hA, hH⟩ := hv
  have hx := B9.exec
  have hb := B9.bytes
  have hr := B9.returns
  have hts := atoms_spec (ws := wsX6_setTools) B9.pre
  have hown : s.vm.findClass RX6 = some m.cls := findClass_of_methodNamed B9.named
  have hlocks := B9.notSynchronized
  have hi6 : ∀ w ∈ wsX60, w ∈ wsX6_setTools := by decide +kernel
  have hS : va_S (fun q : Nat => base ≤ q) s.heap s.heap [] := va_S.rf
  have hl := lv_entry ([.ref y, .int k9, .int n]) (n := 4) (Nat.le_of_ble_eq_true rfl)
  rw [lg_entry_eq]
  generalize (lg_sl ([.ref y, .int k9, .int n]) ++ List.replicate (4 - (lg_sl ([.ref y, .int k9, .int n])).length) Slot.unset).toArray = ls at hl ⊢
  have hl : lv_has ls 4 [(0, .ref y), (1, .int k9), (2, .int n)] := hl
  rcases vLies_const (v := k9) (n := 3) (by decide) (m := 2) (by decide) with ⟨k, rfl, hk3, hvK, hkx⟩ | hvK
  · refine lv_aload_n hx hb dX6_setTools_0 rfl (lv_at hl 0 rfl) ?_
    refine lv_iload_n hx hb dX6_setTools_1 rfl (lv_at hl 1 rfl) ?_
    refine z_calli (va_runS (As := [.int (nI k)]) (rest := [.ref y]) ⟨hx, hb, hml, hown, hts⟩ (c6_isKind l D cy base w0 y r B (nI k) ) (va_cwS 1 hts gX6_setTools_X6_isKind rfl rfl rfl (by decide +kernel) ⟨Nat.le_of_ble_eq_true rfl, Nat.le_of_ble_eq_true rfl⟩) (z_preS hA hS hH) rfl rfl hl.1 rfl (lv_room (Nat.le_of_ble_eq_true rfl)) dX6_setTools_2 ⟨Nat.le_of_ble_eq_true rfl, Nat.le_of_ble_eq_true rfl⟩) hS (fun r_k_1 u_k_1 H locs hw_k_1 hH hz_k_1 hS => ?_)
    rcases hw_k_1 with ⟨h_k_1_0, rfl, hu_k_1⟩ | ⟨h_k_1_0, rfl, hu_k_1⟩
    · rw [hu_k_1] at hH
      refine lv_if_ne (tgt := 12) hx hb dX6_setTools_5 (by decide) (fun _ => ?_) (fun c_2 => absurd c_2 (by decide))
      refine lv_iload_n hx hb dX6_setTools_12 rfl (lv_at hl 2 rfl) ?_
      refine lv_iconst (v := 0) hx hb dX6_setTools_13 (by decide) ?_
      refine lv_bipush (v := 20) hx hb dX6_setTools_14 (by decide) ?_
      refine z_calli (va_runS (As := [.int n, .int 0, .int 20]) (rest := [.ref y]) ⟨hx, hb, hml, hown, hts⟩ (c6_lies l D cy base w0 y r B n 0 20 ) (va_cwS 3 hts gX6_setTools_X6_lies rfl rfl rfl (by decide +kernel) ⟨Nat.le_of_ble_eq_true rfl, Nat.le_of_ble_eq_true rfl⟩) (z_preS hA hS hH) rfl rfl hl.1 rfl (lv_room (Nat.le_of_ble_eq_true rfl)) dX6_setTools_16 ⟨Nat.le_of_ble_eq_true rfl, Nat.le_of_ble_eq_true rfl⟩) hS (fun r_k_3 u_k_3 H locs hw_k_3 hH hz_k_3 hS => ?_)
      rcases hw_k_3 with ⟨h_k_3_0, rfl, hu_k_3⟩ | ⟨h_k_3_0, rfl, hu_k_3⟩
      · rw [hu_k_3] at hH
        refine lv_if_ne (tgt := 26) hx hb dX6_setTools_19 (by decide) (fun _ => ?_) (fun c_4 => absurd c_4 (by decide))
        refine lv_aload_n hx hb dX6_setTools_26 rfl (lv_at hl 0 rfl) ?_
        refine lv_iload_n hx hb dX6_setTools_27 rfl (lv_at hl 1 rfl) ?_
        refine z_calli (va_runV (As := [.int (nI k)]) (rest := [.ref y]) ⟨hx, hb, hml, hown, hts⟩ (c6_out l D cy base w0 y r B (nI k) hinv) (cwV 1 hts gX6_setTools_X6_out rfl rfl rfl (by decide +kernel) ⟨Nat.le_of_ble_eq_true rfl, Nat.le_of_ble_eq_true rfl⟩) (z_preV hA hS hH (m_recv hA hH)) rfl rfl hl.1 rfl (lv_room (Nat.le_of_ble_eq_true rfl)) dX6_setTools_28 ⟨Nat.le_of_ble_eq_true rfl, Nat.le_of_ble_eq_true rfl⟩) hS (fun r_k_5 u_k_5 H locs hw_k_5 hH hz_k_5 hS => ?_)
        rcases hw_k_5 with ⟨rfl, hu_k_5⟩
        rw [hu_k_5] at hH
        refine lv_iload_n hx hb dX6_setTools_31 rfl (lv_at hl 2 rfl) ?_
        refine lv_icmp_le (tgt := 39) hx hb dX6_setTools_32 (by decide) (fun c_6 => ?_) (fun c_6 => ?_)
        · refine lv_iconst (v := 0) hx hb dX6_setTools_39 (by decide) ?_
          refine z_calli (va_runV (As := [.int 0]) (rest := []) ⟨hx, hb, hml, hown, hts⟩ (c6_fails0 l D cy base w0 y r B  ) (cwV 1 hts gX6_setTools_X6_fails rfl rfl rfl (by decide +kernel) ⟨Nat.le_of_ble_eq_true rfl, Nat.le_of_ble_eq_true rfl⟩) (z_preV hA hS hH (m_recv hA hH)) rfl rfl hl.1 rfl (lv_room (Nat.le_of_ble_eq_true rfl)) dX6_setTools_40 ⟨Nat.le_of_ble_eq_true rfl, Nat.le_of_ble_eq_true rfl⟩) hS (fun r_k_7 u_k_7 H locs hw_k_7 hH hz_k_7 hS => ?_)
          rcases hw_k_7 with ⟨rfl, hu_k_7⟩
          rw [hu_k_7] at hH
          refine lv_if_eq (tgt := 48) hx hb dX6_setTools_43 (by decide) (fun _ => ?_) (fun c_8 => absurd c_8 (by decide))
          refine lv_aload_n hx hb dX6_setTools_48 rfl (lv_at hl 0 rfl) ?_
          refine m_arr (f := 21) (by unfold mArr; decide) hx hb hts hi6 hown hA hH (hts (.fieldLink RX6 68 "ParoleCardsModel" "tools" "[I") (by decide +kernel)) rfl dX6_setTools_49 ?_
          refine lv_iload_n hx hb dX6_setTools_52 rfl (lv_at hl 1 rfl) ?_
          refine m_iald (f := 21) (v := (B 21 k)) (by unfold mArr; decide) rfl hx hb hA hH k rfl (by rw [show mLen 21 = 3 from rfl]; omega) rfl dX6_setTools_53 ?_
          refine lv_istore_n (lv' := [(3, .int (B 21 k)), (0, .ref y), (1, .int (nI k)), (2, .int n)]) hx hb dX6_setTools_54 rfl hl (by decide) rfl (fun ls hl => ?_)
          refine lv_aload_n hx hb dX6_setTools_55 rfl (lv_at hl 1 rfl) ?_
          refine m_arr (f := 21) (by unfold mArr; decide) hx hb hts hi6 hown hA hH (hts (.fieldLink RX6 68 "ParoleCardsModel" "tools" "[I") (by decide +kernel)) rfl dX6_setTools_56 ?_
          refine lv_iload_n hx hb dX6_setTools_59 rfl (lv_at hl 2 rfl) ?_
          refine lv_iload_n hx hb dX6_setTools_60 rfl (lv_at hl 3 rfl) ?_
          refine m_iast (f := 21) (by unfold mArr; decide) rfl hx hb hA hH hS k rfl (by rw [show mLen 21 = 3 from rfl]; omega) dX6_setTools_61 (fun H locs hH hS => ?_)
          refine lv_iload_n hx hb dX6_setTools_62 rfl (lv_at hl 0 rfl) ?_
          exact z_iret hx hb hr hlocks hH hS (by
            have hc : (cd_setTools B (nI k) n) = 0 := by first | (simp [cd_setTools, h_k_1_0, h_k_3_0, c_6, Int32.not_lt.mpr c_6, hvK, hkx]; done) | (simp_all [cd_setTools]; done)
            refine Or.inl ⟨hc, ?_, ?_⟩ <;> (simp [up_setTools, an_setTools, h_k_1_0, h_k_3_0, c_6, Int32.not_lt.mpr c_6, hvK, hkx, z27_0, z27_1, z27_2, z27_3, z27_4, z27_5, z27_6, z27_7, z27_8, z27_9, z27_10, z27_11, z27_12, z27_13, z27_14, z27_15, z27_16, z27_17, z27_18, z27_19, z27_20, z27_21, z27_22, z27_23, z27_24, z27_25, z27_26, z27_oc, z27_ox, z27_kx, z27_nP, z27_nO]; done)) (by decide) (by decide) dX6_setTools_63
        · refine lv_iconst (v := 3) hx hb dX6_setTools_35 (by decide) ?_
          refine lv_goto (tgt := 40) hx hb dX6_setTools_36 (by decide) ?_
          refine z_calli (va_runV (As := [.int 3]) (rest := []) ⟨hx, hb, hml, hown, hts⟩ (c6_fails3 l D cy base w0 y r B  ) (cwV 1 hts gX6_setTools_X6_fails rfl rfl rfl (by decide +kernel) ⟨Nat.le_of_ble_eq_true rfl, Nat.le_of_ble_eq_true rfl⟩) (z_preV hA hS hH (m_recv hA hH)) rfl rfl hl.1 rfl (lv_room (Nat.le_of_ble_eq_true rfl)) dX6_setTools_40 ⟨Nat.le_of_ble_eq_true rfl, Nat.le_of_ble_eq_true rfl⟩) hS (fun r_k_9 u_k_9 H locs hw_k_9 hH hz_k_9 hS => ?_)
          rcases hw_k_9 with ⟨rfl, hu_k_9⟩
          rw [hu_k_9] at hH
          refine lv_if_eq (tgt := 48) hx hb dX6_setTools_43 (by decide) (fun c_10 => absurd c_10 (by decide)) (fun _ => ?_)
          refine lv_iconst (v := 0) hx hb dX6_setTools_46 (by decide) ?_
          exact z_iret hx hb hr hlocks hH hS (by
            have hc : (cd_setTools B (nI k) n) = 3 := by first | (simp [cd_setTools, h_k_1_0, h_k_3_0, c_6, Int32.not_le.mp c_6, hvK, hkx]; done) | (simp_all [cd_setTools]; done)
            exact Or.inr ⟨by rw [hc]; decide, by rw [hc]⟩) (by decide) (by decide) dX6_setTools_47
      · rw [hu_k_3] at hH
        refine lv_if_ne (tgt := 26) hx hb dX6_setTools_19 (by decide) (fun c_11 => absurd c_11 (by decide)) (fun _ => ?_)
        refine lv_iconst (v := 2) hx hb dX6_setTools_22 (by decide) ?_
        refine lv_goto (tgt := 40) hx hb dX6_setTools_23 (by decide) ?_
        refine z_calli (va_runV (As := [.int 2]) (rest := []) ⟨hx, hb, hml, hown, hts⟩ (c6_fails2 l D cy base w0 y r B  ) (cwV 1 hts gX6_setTools_X6_fails rfl rfl rfl (by decide +kernel) ⟨Nat.le_of_ble_eq_true rfl, Nat.le_of_ble_eq_true rfl⟩) (z_preV hA hS hH (m_recv hA hH)) rfl rfl hl.1 rfl (lv_room (Nat.le_of_ble_eq_true rfl)) dX6_setTools_40 ⟨Nat.le_of_ble_eq_true rfl, Nat.le_of_ble_eq_true rfl⟩) hS (fun r_k_12 u_k_12 H locs hw_k_12 hH hz_k_12 hS => ?_)
        rcases hw_k_12 with ⟨rfl, hu_k_12⟩
        rw [hu_k_12] at hH
        refine lv_if_eq (tgt := 48) hx hb dX6_setTools_43 (by decide) (fun c_13 => absurd c_13 (by decide)) (fun _ => ?_)
        refine lv_iconst (v := 0) hx hb dX6_setTools_46 (by decide) ?_
        exact z_iret hx hb hr hlocks hH hS (by
          have hc : (cd_setTools B (nI k) n) = 2 := by first | (simp [cd_setTools, h_k_1_0, h_k_3_0, hvK, hkx]; done) | (simp_all [cd_setTools]; done)
          exact Or.inr ⟨by rw [hc]; decide, by rw [hc]⟩) (by decide) (by decide) dX6_setTools_47
    · rw [hu_k_1] at hH
      exact absurd (hvK.symm.trans h_k_1_0) (by decide)
  · refine lv_aload_n hx hb dX6_setTools_0 rfl (lv_at hl 0 rfl) ?_
    refine lv_iload_n hx hb dX6_setTools_1 rfl (lv_at hl 1 rfl) ?_
    refine z_calli (va_runS (As := [.int k9]) (rest := [.ref y]) ⟨hx, hb, hml, hown, hts⟩ (c6_isKind l D cy base w0 y r B k9 ) (va_cwS 1 hts gX6_setTools_X6_isKind rfl rfl rfl (by decide +kernel) ⟨Nat.le_of_ble_eq_true rfl, Nat.le_of_ble_eq_true rfl⟩) (z_preS hA hS hH) rfl rfl hl.1 rfl (lv_room (Nat.le_of_ble_eq_true rfl)) dX6_setTools_2 ⟨Nat.le_of_ble_eq_true rfl, Nat.le_of_ble_eq_true rfl⟩) hS (fun r_k_14 u_k_14 H locs hw_k_14 hH hz_k_14 hS => ?_)
    rcases hw_k_14 with ⟨h_k_14_0, rfl, hu_k_14⟩ | ⟨h_k_14_0, rfl, hu_k_14⟩
    · rw [hu_k_14] at hH
      exact absurd (hvK.symm.trans h_k_14_0) (by decide)
    · rw [hu_k_14] at hH
      refine lv_if_ne (tgt := 12) hx hb dX6_setTools_5 (by decide) (fun c_15 => absurd c_15 (by decide)) (fun _ => ?_)
      refine lv_iconst (v := 1) hx hb dX6_setTools_8 (by decide) ?_
      refine lv_goto (tgt := 40) hx hb dX6_setTools_9 (by decide) ?_
      refine z_calli (va_runV (As := [.int 1]) (rest := []) ⟨hx, hb, hml, hown, hts⟩ (c6_fails1 l D cy base w0 y r B  ) (cwV 1 hts gX6_setTools_X6_fails rfl rfl rfl (by decide +kernel) ⟨Nat.le_of_ble_eq_true rfl, Nat.le_of_ble_eq_true rfl⟩) (z_preV hA hS hH (m_recv hA hH)) rfl rfl hl.1 rfl (lv_room (Nat.le_of_ble_eq_true rfl)) dX6_setTools_40 ⟨Nat.le_of_ble_eq_true rfl, Nat.le_of_ble_eq_true rfl⟩) hS (fun r_k_16 u_k_16 H locs hw_k_16 hH hz_k_16 hS => ?_)
      rcases hw_k_16 with ⟨rfl, hu_k_16⟩
      rw [hu_k_16] at hH
      refine lv_if_eq (tgt := 48) hx hb dX6_setTools_43 (by decide) (fun c_17 => absurd c_17 (by decide)) (fun _ => ?_)
      refine lv_iconst (v := 0) hx hb dX6_setTools_46 (by decide) ?_
      exact z_iret hx hb hr hlocks hH hS (by
        have hc : (cd_setTools B k9 n) = 1 := by first | (simp [cd_setTools, h_k_14_0, hvK]; done) | (simp_all [cd_setTools]; done)
        exact Or.inr ⟨by rw [hc]; decide, by rw [hc]⟩) (by decide) (by decide) dX6_setTools_47
set_option maxHeartbeats 4000000 in
set_option maxRecDepth 100000 in
theorem c6_toolsOut (l : Launch) (D : va_G) (cy : Nat → ClassId) (base : Nat) (w0 : zW) (y : Nat) (r : Nat → Nat) (B : Nat → Nat → Int32) (k9 : Int32) (hinv : mInv B) : Met l yX6_toolsOut wsX6_toolsOut ({ frames := 2, cells := 0, slots := 0, locals := 42 }) (zPc D cy base (mH D cy base w0 y r) [.ref y, .int k9] B) (zQi base (mH D cy base w0 y r) (fun (r0 : Int32) (u0 : Nat → Nat → Int32) => ((cd_K B k9) = 0 ∧ r0 = (an_toolsOut (z2 B 27 0 0) k9) ∧ u0 = ((z2 B 27 0 0))) ∨ (¬ (cd_K B k9) = 0 ∧ u0 = (z2 B 27 0 (cd_K B k9))))) 0 0 (fun q => base ≤ q) := by
  refine Met.ofW (cc := cX6_toolsOut) (maxL := 2) (ret := (some .int)) (by decide) rfl ?_
  intro p e s m args below meth c s₁ B9 hml hv
  obtain ⟨rfl, hA, hH⟩ := hv
  have hx := B9.exec
  have hb := B9.bytes
  have hr := B9.returns
  have hts := atoms_spec (ws := wsX6_toolsOut) B9.pre
  have hown : s.vm.findClass RX6 = some m.cls := findClass_of_methodNamed B9.named
  have hlocks := B9.notSynchronized
  have hS : va_S (fun q : Nat => base ≤ q) s.heap s.heap [] := va_S.rf
  have hl := lv_entry ([.ref y, .int k9]) (n := 2) (Nat.le_of_ble_eq_true rfl)
  rw [lg_entry_eq]
  generalize (lg_sl ([.ref y, .int k9]) ++ List.replicate (2 - (lg_sl ([.ref y, .int k9])).length) Slot.unset).toArray = ls at hl ⊢
  have hl : lv_has ls 2 [(0, .ref y), (1, .int k9)] := hl
  rcases vLies_const (v := k9) (n := 3) (by decide) (m := 2) (by decide) with ⟨k, rfl, hk3, hvK, hkx⟩ | hvK
  · refine lv_aload_n hx hb dX6_toolsOut_0 rfl (lv_at hl 0 rfl) ?_
    refine lv_iload_n hx hb dX6_toolsOut_1 rfl (lv_at hl 1 rfl) ?_
    refine z_calli (va_runS (As := [.int (nI k)]) (rest := [.ref y]) ⟨hx, hb, hml, hown, hts⟩ (c6_isKind l D cy base w0 y r B (nI k) ) (va_cwS 1 hts gX6_toolsOut_X6_isKind rfl rfl rfl (by decide +kernel) ⟨Nat.le_of_ble_eq_true rfl, Nat.le_of_ble_eq_true rfl⟩) (z_preS hA hS hH) rfl rfl hl.1 rfl (lv_room (Nat.le_of_ble_eq_true rfl)) dX6_toolsOut_2 ⟨Nat.le_of_ble_eq_true rfl, Nat.le_of_ble_eq_true rfl⟩) hS (fun r_k_1 u_k_1 H locs hw_k_1 hH hz_k_1 hS => ?_)
    rcases hw_k_1 with ⟨h_k_1_0, rfl, hu_k_1⟩ | ⟨h_k_1_0, rfl, hu_k_1⟩
    · rw [hu_k_1] at hH
      refine lv_if_eq (tgt := 12) hx hb dX6_toolsOut_5 (by decide) (fun c_2 => absurd c_2 (by decide)) (fun _ => ?_)
      refine lv_iconst (v := 0) hx hb dX6_toolsOut_8 (by decide) ?_
      refine lv_goto (tgt := 13) hx hb dX6_toolsOut_9 (by decide) ?_
      refine z_calli (va_runV (As := [.int 0]) (rest := []) ⟨hx, hb, hml, hown, hts⟩ (c6_fails0 l D cy base w0 y r B  ) (cwV 1 hts gX6_toolsOut_X6_fails rfl rfl rfl (by decide +kernel) ⟨Nat.le_of_ble_eq_true rfl, Nat.le_of_ble_eq_true rfl⟩) (z_preV hA hS hH (m_recv hA hH)) rfl rfl hl.1 rfl (lv_room (Nat.le_of_ble_eq_true rfl)) dX6_toolsOut_13 ⟨Nat.le_of_ble_eq_true rfl, Nat.le_of_ble_eq_true rfl⟩) hS (fun r_k_3 u_k_3 H locs hw_k_3 hH hz_k_3 hS => ?_)
      rcases hw_k_3 with ⟨rfl, hu_k_3⟩
      rw [hu_k_3] at hH
      refine lv_if_eq (tgt := 23) hx hb dX6_toolsOut_16 (by decide) (fun _ => ?_) (fun c_4 => absurd c_4 (by decide))
      refine lv_aload_n hx hb dX6_toolsOut_23 rfl (lv_at hl 0 rfl) ?_
      refine lv_iload_n hx hb dX6_toolsOut_24 rfl (lv_at hl 1 rfl) ?_
      refine z_calli (va_runV (As := [.int (nI k)]) (rest := []) ⟨hx, hb, hml, hown, hts⟩ (c6_out l D cy base w0 y r (z2 B 27 0 0) (nI k) hinv) (cwV 1 hts gX6_toolsOut_X6_out rfl rfl rfl (by decide +kernel) ⟨Nat.le_of_ble_eq_true rfl, Nat.le_of_ble_eq_true rfl⟩) (z_preV hA hS hH (m_recv hA hH)) rfl rfl hl.1 rfl (lv_room (Nat.le_of_ble_eq_true rfl)) dX6_toolsOut_25 ⟨Nat.le_of_ble_eq_true rfl, Nat.le_of_ble_eq_true rfl⟩) hS (fun r_k_5 u_k_5 H locs hw_k_5 hH hz_k_5 hS => ?_)
      rcases hw_k_5 with ⟨rfl, hu_k_5⟩
      rw [hu_k_5] at hH
      exact z_iret hx hb hr hlocks hH hS (by
        have hc : (cd_K B (nI k)) = 0 := by first | (simp [cd_K, h_k_1_0, hvK, hkx]; done) | (simp_all [cd_K]; done)
        refine Or.inl ⟨hc, ?_, ?_⟩ <;> (simp [an_toolsOut, h_k_1_0, hvK, hkx, z27_0, z27_1, z27_2, z27_3, z27_4, z27_5, z27_6, z27_7, z27_8, z27_9, z27_10, z27_11, z27_12, z27_13, z27_14, z27_15, z27_16, z27_17, z27_18, z27_19, z27_20, z27_21, z27_22, z27_23, z27_24, z27_25, z27_26, z27_oc, z27_ox, z27_kx, z27_nP, z27_nO]; done)) (by decide) (by decide) dX6_toolsOut_28
    · rw [hu_k_1] at hH
      exact absurd (hvK.symm.trans h_k_1_0) (by decide)
  · refine lv_aload_n hx hb dX6_toolsOut_0 rfl (lv_at hl 0 rfl) ?_
    refine lv_iload_n hx hb dX6_toolsOut_1 rfl (lv_at hl 1 rfl) ?_
    refine z_calli (va_runS (As := [.int k9]) (rest := [.ref y]) ⟨hx, hb, hml, hown, hts⟩ (c6_isKind l D cy base w0 y r B k9 ) (va_cwS 1 hts gX6_toolsOut_X6_isKind rfl rfl rfl (by decide +kernel) ⟨Nat.le_of_ble_eq_true rfl, Nat.le_of_ble_eq_true rfl⟩) (z_preS hA hS hH) rfl rfl hl.1 rfl (lv_room (Nat.le_of_ble_eq_true rfl)) dX6_toolsOut_2 ⟨Nat.le_of_ble_eq_true rfl, Nat.le_of_ble_eq_true rfl⟩) hS (fun r_k_6 u_k_6 H locs hw_k_6 hH hz_k_6 hS => ?_)
    rcases hw_k_6 with ⟨h_k_6_0, rfl, hu_k_6⟩ | ⟨h_k_6_0, rfl, hu_k_6⟩
    · rw [hu_k_6] at hH
      exact absurd (hvK.symm.trans h_k_6_0) (by decide)
    · rw [hu_k_6] at hH
      refine lv_if_eq (tgt := 12) hx hb dX6_toolsOut_5 (by decide) (fun _ => ?_) (fun c_7 => absurd c_7 (by decide))
      refine lv_iconst (v := 1) hx hb dX6_toolsOut_12 (by decide) ?_
      refine z_calli (va_runV (As := [.int 1]) (rest := []) ⟨hx, hb, hml, hown, hts⟩ (c6_fails1 l D cy base w0 y r B  ) (cwV 1 hts gX6_toolsOut_X6_fails rfl rfl rfl (by decide +kernel) ⟨Nat.le_of_ble_eq_true rfl, Nat.le_of_ble_eq_true rfl⟩) (z_preV hA hS hH (m_recv hA hH)) rfl rfl hl.1 rfl (lv_room (Nat.le_of_ble_eq_true rfl)) dX6_toolsOut_13 ⟨Nat.le_of_ble_eq_true rfl, Nat.le_of_ble_eq_true rfl⟩) hS (fun r_k_8 u_k_8 H locs hw_k_8 hH hz_k_8 hS => ?_)
      rcases hw_k_8 with ⟨rfl, hu_k_8⟩
      rw [hu_k_8] at hH
      refine lv_if_eq (tgt := 23) hx hb dX6_toolsOut_16 (by decide) (fun c_9 => absurd c_9 (by decide)) (fun _ => ?_)
      refine lv_iconst (v := 0) hx hb dX6_toolsOut_19 (by decide) ?_
      refine lv_goto (tgt := 28) hx hb dX6_toolsOut_20 (by decide) ?_
      exact z_iret hx hb hr hlocks hH hS (by
        have hc : (cd_K B k9) = 1 := by first | (simp [cd_K, h_k_6_0, hvK]; done) | (simp_all [cd_K]; done)
        exact Or.inr ⟨by rw [hc]; decide, by rw [hc]⟩) (by decide) (by decide) dX6_toolsOut_28
set_option maxHeartbeats 4000000 in
set_option maxRecDepth 100000 in
theorem c6_addOrder (l : Launch) (D : va_G) (cy : Nat → ClassId) (base : Nat) (w0 : zW) (y : Nat) (r : Nat → Nat) (B : Nat → Nat → Int32) (s9 : Int32) (k9 : Int32) (w9 : Int32) (g9 : Int32) (hinv : mInv B) : Met l yX6_addOrder wsX6_addOrder ({ frames := 2, cells := 0, slots := 0, locals := 42 }) (zPc D cy base (mH D cy base w0 y r) [.ref y, .int s9, .int k9, .int w9, .int g9] B) (zQi base (mH D cy base w0 y r) (fun (r0 : Int32) (u0 : Nat → Nat → Int32) => ((cd_addOrder B s9 k9 w9 g9) = 0 ∧ r0 = (an_addOrder (z2 B 27 0 0)) ∧ u0 = (up_addOrder (z2 B 27 0 0) s9 k9 w9 g9)) ∨ (¬ (cd_addOrder B s9 k9 w9 g9) = 0 ∧ u0 = (z2 B 27 0 (cd_addOrder B s9 k9 w9 g9))))) 0 0 (fun q => base ≤ q) := by
  refine Met.ofW (cc := cX6_addOrder) (maxL := 7) (ret := (some .int)) (by decide) rfl ?_
  intro p e s m args below meth c s₁ B9 hml hv
  obtain ⟨rfl, hA, hH⟩ := hv
  have hx := B9.exec
  have hb := B9.bytes
  have hr := B9.returns
  have hts := atoms_spec (ws := wsX6_addOrder) B9.pre
  have hown : s.vm.findClass RX6 = some m.cls := findClass_of_methodNamed B9.named
  have hlocks := B9.notSynchronized
  have hi6 : ∀ w ∈ wsX60, w ∈ wsX6_addOrder := by decide +kernel
  have hS : va_S (fun q : Nat => base ≤ q) s.heap s.heap [] := va_S.rf
  have hl := lv_entry ([.ref y, .int s9, .int k9, .int w9, .int g9]) (n := 7) (Nat.le_of_ble_eq_true rfl)
  rw [lg_entry_eq]
  generalize (lg_sl ([.ref y, .int s9, .int k9, .int w9, .int g9]) ++ List.replicate (7 - (lg_sl ([.ref y, .int s9, .int k9, .int w9, .int g9])).length) Slot.unset).toArray = ls at hl ⊢
  have hl : lv_has ls 7 [(0, .ref y), (1, .int s9), (2, .int k9), (3, .int w9), (4, .int g9)] := hl
  refine lv_iload_n hx hb dX6_addOrder_0 rfl (lv_at hl 1 rfl) ?_
  refine lv_iconst (v := 0) hx hb dX6_addOrder_1 (by decide) ?_
  refine lv_iconst (v := 3) hx hb dX6_addOrder_2 (by decide) ?_
  refine z_calli (va_runS (As := [.int s9, .int 0, .int 3]) (rest := []) ⟨hx, hb, hml, hown, hts⟩ (c6_lies l D cy base w0 y r B s9 0 3 ) (va_cwS 3 hts gX6_addOrder_X6_lies rfl rfl rfl (by decide +kernel) ⟨Nat.le_of_ble_eq_true rfl, Nat.le_of_ble_eq_true rfl⟩) (z_preS hA hS hH) rfl rfl hl.1 rfl (lv_room (Nat.le_of_ble_eq_true rfl)) dX6_addOrder_3 ⟨Nat.le_of_ble_eq_true rfl, Nat.le_of_ble_eq_true rfl⟩) hS (fun r_k_1 u_k_1 H locs hw_k_1 hH hz_k_1 hS => ?_)
  rcases hw_k_1 with ⟨h_k_1_0, rfl, hu_k_1⟩ | ⟨h_k_1_0, rfl, hu_k_1⟩
  · rw [hu_k_1] at hH
    refine lv_if_eq (tgt := 20) hx hb dX6_addOrder_6 (by decide) (fun c_2 => absurd c_2 (by decide)) (fun _ => ?_)
    refine lv_iload_n hx hb dX6_addOrder_9 rfl (lv_at hl 2 rfl) ?_
    refine z_calli (va_runS (As := [.int k9]) (rest := []) ⟨hx, hb, hml, hown, hts⟩ (c6_isKind l D cy base w0 y r B k9 ) (va_cwS 1 hts gX6_addOrder_X6_isKind rfl rfl rfl (by decide +kernel) ⟨Nat.le_of_ble_eq_true rfl, Nat.le_of_ble_eq_true rfl⟩) (z_preS hA hS hH) rfl rfl hl.1 rfl (lv_room (Nat.le_of_ble_eq_true rfl)) dX6_addOrder_10 ⟨Nat.le_of_ble_eq_true rfl, Nat.le_of_ble_eq_true rfl⟩) hS (fun r_k_3 u_k_3 H locs hw_k_3 hH hz_k_3 hS => ?_)
    rcases hw_k_3 with ⟨h_k_3_0, rfl, hu_k_3⟩ | ⟨h_k_3_0, rfl, hu_k_3⟩
    · rw [hu_k_3] at hH
      refine lv_if_eq (tgt := 20) hx hb dX6_addOrder_13 (by decide) (fun c_4 => absurd c_4 (by decide)) (fun _ => ?_)
      refine lv_iconst (v := 1) hx hb dX6_addOrder_16 (by decide) ?_
      refine lv_goto (tgt := 21) hx hb dX6_addOrder_17 (by decide) ?_
      refine lv_istore (lv' := [(5, .int 1), (0, .ref y), (1, .int s9), (2, .int k9), (3, .int w9), (4, .int g9)]) hx hb dX6_addOrder_21 hl (by decide) rfl (fun ls hl => ?_)
      refine lv_iload_n hx hb dX6_addOrder_23 rfl (lv_at hl 4 rfl) ?_
      refine lv_iconst (v := 1) hx hb dX6_addOrder_24 (by decide) ?_
      refine lv_sipush (v := 500) hx hb dX6_addOrder_25 (by decide) ?_
      refine z_calli (va_runS (As := [.int w9, .int 1, .int 500]) (rest := []) ⟨hx, hb, hml, hown, hts⟩ (c6_lies l D cy base w0 y r B w9 1 500 ) (va_cwS 3 hts gX6_addOrder_X6_lies rfl rfl rfl (by decide +kernel) ⟨Nat.le_of_ble_eq_true rfl, Nat.le_of_ble_eq_true rfl⟩) (z_preS hA hS hH) rfl rfl hl.1 rfl (lv_room (Nat.le_of_ble_eq_true rfl)) dX6_addOrder_28 ⟨Nat.le_of_ble_eq_true rfl, Nat.le_of_ble_eq_true rfl⟩) hS (fun r_k_5 u_k_5 H locs hw_k_5 hH hz_k_5 hS => ?_)
      rcases hw_k_5 with ⟨h_k_5_0, rfl, hu_k_5⟩ | ⟨h_k_5_0, rfl, hu_k_5⟩
      · rw [hu_k_5] at hH
        refine lv_if_eq (tgt := 50) hx hb dX6_addOrder_31 (by decide) (fun c_6 => absurd c_6 (by decide)) (fun _ => ?_)
        refine lv_iload hx hb dX6_addOrder_34 (lv_at hl 5 rfl) ?_
        refine lv_iconst (v := 0) hx hb dX6_addOrder_36 (by decide) ?_
        refine lv_sipush (v := 1000) hx hb dX6_addOrder_37 (by decide) ?_
        refine z_calli (va_runS (As := [.int g9, .int 0, .int 1000]) (rest := []) ⟨hx, hb, hml, hown, hts⟩ (c6_lies l D cy base w0 y r B g9 0 1000 ) (va_cwS 3 hts gX6_addOrder_X6_lies rfl rfl rfl (by decide +kernel) ⟨Nat.le_of_ble_eq_true rfl, Nat.le_of_ble_eq_true rfl⟩) (z_preS hA hS hH) rfl rfl hl.1 rfl (lv_room (Nat.le_of_ble_eq_true rfl)) dX6_addOrder_40 ⟨Nat.le_of_ble_eq_true rfl, Nat.le_of_ble_eq_true rfl⟩) hS (fun r_k_7 u_k_7 H locs hw_k_7 hH hz_k_7 hS => ?_)
        rcases hw_k_7 with ⟨h_k_7_0, rfl, hu_k_7⟩ | ⟨h_k_7_0, rfl, hu_k_7⟩
        · rw [hu_k_7] at hH
          refine lv_if_eq (tgt := 50) hx hb dX6_addOrder_43 (by decide) (fun c_8 => absurd c_8 (by decide)) (fun _ => ?_)
          refine lv_iconst (v := 1) hx hb dX6_addOrder_46 (by decide) ?_
          refine lv_goto (tgt := 51) hx hb dX6_addOrder_47 (by decide) ?_
          refine lv_istore (lv' := [(6, .int 1), (5, .int 1), (0, .ref y), (1, .int s9), (2, .int k9), (3, .int w9), (4, .int g9)]) hx hb dX6_addOrder_51 hl (by decide) rfl (fun ls hl => ?_)
          refine lv_aload_n hx hb dX6_addOrder_53 rfl (lv_at hl 2 rfl) ?_
          refine lv_iload hx hb dX6_addOrder_54 (lv_at hl 1 rfl) ?_
          refine lv_if_ne (tgt := 63) hx hb dX6_addOrder_56 (by decide) (fun _ => ?_) (fun c_9 => absurd c_9 (by decide))
          refine lv_iload hx hb dX6_addOrder_63 (lv_at hl 0 rfl) ?_
          refine lv_if_ne (tgt := 72) hx hb dX6_addOrder_65 (by decide) (fun _ => ?_) (fun c_10 => absurd c_10 (by decide))
          refine lv_aload_n hx hb dX6_addOrder_72 rfl (lv_at hl 2 rfl) ?_
          refine m_num (f := 22) (v := (B 22 0)) (by unfold mNum; decide) hx hb hts hi6 hown hA hH (hts (.fieldLink RX6 94 "ParoleCardsModel" "orders" "I") (by decide +kernel)) rfl dX6_addOrder_73 ?_
          refine lv_bipush (v := 8) hx hb dX6_addOrder_76 (by decide) ?_
          refine lv_icmp_ne (tgt := 85) hx hb dX6_addOrder_78 (by decide) (fun c_11 => ?_) (fun c_11 => ?_)
          · refine lv_iconst (v := 0) hx hb dX6_addOrder_85 (by decide) ?_
            refine z_calli (va_runV (As := [.int 0]) (rest := []) ⟨hx, hb, hml, hown, hts⟩ (c6_fails0 l D cy base w0 y r B  ) (cwV 1 hts gX6_addOrder_X6_fails rfl rfl rfl (by decide +kernel) ⟨Nat.le_of_ble_eq_true rfl, Nat.le_of_ble_eq_true rfl⟩) (z_preV hA hS hH (m_recv hA hH)) rfl rfl hl.1 rfl (lv_room (Nat.le_of_ble_eq_true rfl)) dX6_addOrder_86 ⟨Nat.le_of_ble_eq_true rfl, Nat.le_of_ble_eq_true rfl⟩) hS (fun r_k_12 u_k_12 H locs hw_k_12 hH hz_k_12 hS => ?_)
            rcases hw_k_12 with ⟨rfl, hu_k_12⟩
            rw [hu_k_12] at hH
            refine lv_if_eq (tgt := 94) hx hb dX6_addOrder_89 (by decide) (fun _ => ?_) (fun c_13 => absurd c_13 (by decide))
            have hlt := mInv_ltO hinv c_11
            refine lv_aload_n hx hb dX6_addOrder_94 rfl (lv_at hl 2 rfl) ?_
            refine m_arr (f := 23) (by unfold mArr; decide) hx hb hts hi6 hown hA hH (hts (.fieldLink RX6 71 "ParoleCardsModel" "skill" "[I") (by decide +kernel)) rfl dX6_addOrder_95 ?_
            refine lv_aload_n hx hb dX6_addOrder_98 rfl (lv_at hl 2 rfl) ?_
            refine m_num (f := 22) (v := (B 22 0)) (by unfold mNum; decide) hx hb hts hi6 hown hA hH (hts (.fieldLink RX6 94 "ParoleCardsModel" "orders" "I") (by decide +kernel)) rfl dX6_addOrder_99 ?_
            refine lv_iload_n hx hb dX6_addOrder_102 rfl (lv_at hl 3 rfl) ?_
            refine m_iast (f := 23) (by unfold mArr; decide) rfl hx hb hA hH hS (nO B) hinv.2.1.2 (by rw [show mLen 23 = 8 from rfl]; exact hlt) dX6_addOrder_103 (fun H locs hH hS => ?_)
            refine lv_aload_n hx hb dX6_addOrder_104 rfl (lv_at hl 2 rfl) ?_
            refine m_arr (f := 24) (by unfold mArr; decide) hx hb hts hi6 hown hA hH (hts (.fieldLink RX6 74 "ParoleCardsModel" "kind" "[I") (by decide +kernel)) rfl dX6_addOrder_105 ?_
            refine lv_aload_n hx hb dX6_addOrder_108 rfl (lv_at hl 2 rfl) ?_
            refine m_num (f := 22) (v := (B 22 0)) (by unfold mNum; decide) hx hb hts hi6 hown hA hH (hts (.fieldLink RX6 94 "ParoleCardsModel" "orders" "I") (by decide +kernel)) rfl dX6_addOrder_109 ?_
            refine lv_iload_n hx hb dX6_addOrder_112 rfl (lv_at hl 4 rfl) ?_
            refine m_iast (f := 24) (by unfold mArr; decide) rfl hx hb hA hH hS (nO B) hinv.2.1.2 (by rw [show mLen 24 = 8 from rfl]; exact hlt) dX6_addOrder_113 (fun H locs hH hS => ?_)
            refine lv_aload_n hx hb dX6_addOrder_114 rfl (lv_at hl 2 rfl) ?_
            refine m_arr (f := 25) (by unfold mArr; decide) hx hb hts hi6 hown hA hH (hts (.fieldLink RX6 77 "ParoleCardsModel" "left" "[I") (by decide +kernel)) rfl dX6_addOrder_115 ?_
            refine lv_aload_n hx hb dX6_addOrder_118 rfl (lv_at hl 2 rfl) ?_
            refine m_num (f := 22) (v := (B 22 0)) (by unfold mNum; decide) hx hb hts hi6 hown hA hH (hts (.fieldLink RX6 94 "ParoleCardsModel" "orders" "I") (by decide +kernel)) rfl dX6_addOrder_119 ?_
            refine lv_iload_n hx hb dX6_addOrder_122 rfl (lv_at hl 5 rfl) ?_
            refine m_iast (f := 25) (by unfold mArr; decide) rfl hx hb hA hH hS (nO B) hinv.2.1.2 (by rw [show mLen 25 = 8 from rfl]; exact hlt) dX6_addOrder_123 (fun H locs hH hS => ?_)
            refine lv_aload_n hx hb dX6_addOrder_124 rfl (lv_at hl 2 rfl) ?_
            refine m_arr (f := 26) (by unfold mArr; decide) hx hb hts hi6 hown hA hH (hts (.fieldLink RX6 80 "ParoleCardsModel" "wage" "[I") (by decide +kernel)) rfl dX6_addOrder_125 ?_
            refine lv_aload_n hx hb dX6_addOrder_128 rfl (lv_at hl 2 rfl) ?_
            refine m_num (f := 22) (v := (B 22 0)) (by unfold mNum; decide) hx hb hts hi6 hown hA hH (hts (.fieldLink RX6 94 "ParoleCardsModel" "orders" "I") (by decide +kernel)) rfl dX6_addOrder_129 ?_
            refine lv_iload hx hb dX6_addOrder_132 (lv_at hl 6 rfl) ?_
            refine m_iast (f := 26) (by unfold mArr; decide) rfl hx hb hA hH hS (nO B) hinv.2.1.2 (by rw [show mLen 26 = 8 from rfl]; exact hlt) dX6_addOrder_134 (fun H locs hH hS => ?_)
            refine lv_aload_n hx hb dX6_addOrder_135 rfl (lv_at hl 2 rfl) ?_
            refine lv_dup hx hb dX6_addOrder_136 rfl ?_
            refine m_num (f := 22) (v := (B 22 0)) (by unfold mNum; decide) hx hb hts hi6 hown hA hH (hts (.fieldLink RX6 94 "ParoleCardsModel" "orders" "I") (by decide +kernel)) rfl dX6_addOrder_137 ?_
            refine lv_iconst (v := 1) hx hb dX6_addOrder_140 (by decide) ?_
            refine lv_iadd hx hb dX6_addOrder_141 ?_
            refine m_put (f := 22) (by unfold mNum; decide) hx hb hts hi6 hown hA hH hS (hts (.fieldLink RX6 94 "ParoleCardsModel" "orders" "I") (by decide +kernel)) dX6_addOrder_142 (fun H locs hH hS => ?_)
            refine lv_aload_n hx hb dX6_addOrder_145 rfl (lv_at hl 2 rfl) ?_
            refine m_num (f := 22) (v := ((B 22 0) + 1)) (by unfold mNum; decide) hx hb hts hi6 hown hA hH (hts (.fieldLink RX6 94 "ParoleCardsModel" "orders" "I") (by decide +kernel)) (by simp [z2, va_up]) dX6_addOrder_146 ?_
            refine lv_iconst (v := 1) hx hb dX6_addOrder_149 (by decide) ?_
            refine lv_isub hx hb dX6_addOrder_150 ?_
            exact z_iret hx hb hr hlocks hH hS (by
              have hc : (cd_addOrder B s9 k9 w9 g9) = 0 := by first | (simp [cd_addOrder, h_k_1_0, h_k_3_0, h_k_5_0, h_k_7_0, c_11]; done) | (simp_all [cd_addOrder]; done)
              refine Or.inl ⟨hc, ?_, ?_⟩ <;> (simp [up_addOrder, an_addOrder, h_k_1_0, h_k_3_0, h_k_5_0, h_k_7_0, c_11, z27_0, z27_1, z27_2, z27_3, z27_4, z27_5, z27_6, z27_7, z27_8, z27_9, z27_10, z27_11, z27_12, z27_13, z27_14, z27_15, z27_16, z27_17, z27_18, z27_19, z27_20, z27_21, z27_22, z27_23, z27_24, z27_25, z27_26, z27_oc, z27_ox, z27_kx, z27_nP, z27_nO]; done)) (by decide) (by decide) dX6_addOrder_151
          · refine lv_iconst (v := 3) hx hb dX6_addOrder_81 (by decide) ?_
            refine lv_goto (tgt := 86) hx hb dX6_addOrder_82 (by decide) ?_
            refine z_calli (va_runV (As := [.int 3]) (rest := []) ⟨hx, hb, hml, hown, hts⟩ (c6_fails3 l D cy base w0 y r B  ) (cwV 1 hts gX6_addOrder_X6_fails rfl rfl rfl (by decide +kernel) ⟨Nat.le_of_ble_eq_true rfl, Nat.le_of_ble_eq_true rfl⟩) (z_preV hA hS hH (m_recv hA hH)) rfl rfl hl.1 rfl (lv_room (Nat.le_of_ble_eq_true rfl)) dX6_addOrder_86 ⟨Nat.le_of_ble_eq_true rfl, Nat.le_of_ble_eq_true rfl⟩) hS (fun r_k_14 u_k_14 H locs hw_k_14 hH hz_k_14 hS => ?_)
            rcases hw_k_14 with ⟨rfl, hu_k_14⟩
            rw [hu_k_14] at hH
            refine lv_if_eq (tgt := 94) hx hb dX6_addOrder_89 (by decide) (fun c_15 => absurd c_15 (by decide)) (fun _ => ?_)
            refine lv_iconst (v := 0) hx hb dX6_addOrder_92 (by decide) ?_
            exact z_iret hx hb hr hlocks hH hS (by
              have hc : (cd_addOrder B s9 k9 w9 g9) = 3 := by first | (simp [cd_addOrder, h_k_1_0, h_k_3_0, h_k_5_0, h_k_7_0, c_11]; done) | (simp_all [cd_addOrder]; done)
              exact Or.inr ⟨by rw [hc]; decide, by rw [hc]⟩) (by decide) (by decide) dX6_addOrder_93
        · rw [hu_k_7] at hH
          refine lv_if_eq (tgt := 50) hx hb dX6_addOrder_43 (by decide) (fun _ => ?_) (fun c_16 => absurd c_16 (by decide))
          refine lv_iconst (v := 0) hx hb dX6_addOrder_50 (by decide) ?_
          refine lv_istore (lv' := [(6, .int 0), (5, .int 1), (0, .ref y), (1, .int s9), (2, .int k9), (3, .int w9), (4, .int g9)]) hx hb dX6_addOrder_51 hl (by decide) rfl (fun ls hl => ?_)
          refine lv_aload_n hx hb dX6_addOrder_53 rfl (lv_at hl 2 rfl) ?_
          refine lv_iload hx hb dX6_addOrder_54 (lv_at hl 1 rfl) ?_
          refine lv_if_ne (tgt := 63) hx hb dX6_addOrder_56 (by decide) (fun _ => ?_) (fun c_17 => absurd c_17 (by decide))
          refine lv_iload hx hb dX6_addOrder_63 (lv_at hl 0 rfl) ?_
          refine lv_if_ne (tgt := 72) hx hb dX6_addOrder_65 (by decide) (fun c_18 => absurd c_18 (by decide)) (fun _ => ?_)
          refine lv_iconst (v := 2) hx hb dX6_addOrder_68 (by decide) ?_
          refine lv_goto (tgt := 86) hx hb dX6_addOrder_69 (by decide) ?_
          refine z_calli (va_runV (As := [.int 2]) (rest := []) ⟨hx, hb, hml, hown, hts⟩ (c6_fails2 l D cy base w0 y r B  ) (cwV 1 hts gX6_addOrder_X6_fails rfl rfl rfl (by decide +kernel) ⟨Nat.le_of_ble_eq_true rfl, Nat.le_of_ble_eq_true rfl⟩) (z_preV hA hS hH (m_recv hA hH)) rfl rfl hl.1 rfl (lv_room (Nat.le_of_ble_eq_true rfl)) dX6_addOrder_86 ⟨Nat.le_of_ble_eq_true rfl, Nat.le_of_ble_eq_true rfl⟩) hS (fun r_k_19 u_k_19 H locs hw_k_19 hH hz_k_19 hS => ?_)
          rcases hw_k_19 with ⟨rfl, hu_k_19⟩
          rw [hu_k_19] at hH
          refine lv_if_eq (tgt := 94) hx hb dX6_addOrder_89 (by decide) (fun c_20 => absurd c_20 (by decide)) (fun _ => ?_)
          refine lv_iconst (v := 0) hx hb dX6_addOrder_92 (by decide) ?_
          exact z_iret hx hb hr hlocks hH hS (by
            have hc : (cd_addOrder B s9 k9 w9 g9) = 2 := by first | (simp [cd_addOrder, h_k_1_0, h_k_3_0, h_k_5_0, h_k_7_0]; done) | (simp_all [cd_addOrder]; done)
            exact Or.inr ⟨by rw [hc]; decide, by rw [hc]⟩) (by decide) (by decide) dX6_addOrder_93
      · rw [hu_k_5] at hH
        refine lv_if_eq (tgt := 50) hx hb dX6_addOrder_31 (by decide) (fun _ => ?_) (fun c_21 => absurd c_21 (by decide))
        refine lv_iconst (v := 0) hx hb dX6_addOrder_50 (by decide) ?_
        refine lv_istore (lv' := [(6, .int 0), (5, .int 1), (0, .ref y), (1, .int s9), (2, .int k9), (3, .int w9), (4, .int g9)]) hx hb dX6_addOrder_51 hl (by decide) rfl (fun ls hl => ?_)
        refine lv_aload_n hx hb dX6_addOrder_53 rfl (lv_at hl 2 rfl) ?_
        refine lv_iload hx hb dX6_addOrder_54 (lv_at hl 1 rfl) ?_
        refine lv_if_ne (tgt := 63) hx hb dX6_addOrder_56 (by decide) (fun _ => ?_) (fun c_22 => absurd c_22 (by decide))
        refine lv_iload hx hb dX6_addOrder_63 (lv_at hl 0 rfl) ?_
        refine lv_if_ne (tgt := 72) hx hb dX6_addOrder_65 (by decide) (fun c_23 => absurd c_23 (by decide)) (fun _ => ?_)
        refine lv_iconst (v := 2) hx hb dX6_addOrder_68 (by decide) ?_
        refine lv_goto (tgt := 86) hx hb dX6_addOrder_69 (by decide) ?_
        refine z_calli (va_runV (As := [.int 2]) (rest := []) ⟨hx, hb, hml, hown, hts⟩ (c6_fails2 l D cy base w0 y r B  ) (cwV 1 hts gX6_addOrder_X6_fails rfl rfl rfl (by decide +kernel) ⟨Nat.le_of_ble_eq_true rfl, Nat.le_of_ble_eq_true rfl⟩) (z_preV hA hS hH (m_recv hA hH)) rfl rfl hl.1 rfl (lv_room (Nat.le_of_ble_eq_true rfl)) dX6_addOrder_86 ⟨Nat.le_of_ble_eq_true rfl, Nat.le_of_ble_eq_true rfl⟩) hS (fun r_k_24 u_k_24 H locs hw_k_24 hH hz_k_24 hS => ?_)
        rcases hw_k_24 with ⟨rfl, hu_k_24⟩
        rw [hu_k_24] at hH
        refine lv_if_eq (tgt := 94) hx hb dX6_addOrder_89 (by decide) (fun c_25 => absurd c_25 (by decide)) (fun _ => ?_)
        refine lv_iconst (v := 0) hx hb dX6_addOrder_92 (by decide) ?_
        exact z_iret hx hb hr hlocks hH hS (by
          have hc : (cd_addOrder B s9 k9 w9 g9) = 2 := by first | (simp [cd_addOrder, h_k_1_0, h_k_3_0, h_k_5_0]; done) | (simp_all [cd_addOrder]; done)
          exact Or.inr ⟨by rw [hc]; decide, by rw [hc]⟩) (by decide) (by decide) dX6_addOrder_93
    · rw [hu_k_3] at hH
      refine lv_if_eq (tgt := 20) hx hb dX6_addOrder_13 (by decide) (fun _ => ?_) (fun c_26 => absurd c_26 (by decide))
      refine lv_iconst (v := 0) hx hb dX6_addOrder_20 (by decide) ?_
      refine lv_istore (lv' := [(5, .int 0), (0, .ref y), (1, .int s9), (2, .int k9), (3, .int w9), (4, .int g9)]) hx hb dX6_addOrder_21 hl (by decide) rfl (fun ls hl => ?_)
      refine lv_iload_n hx hb dX6_addOrder_23 rfl (lv_at hl 4 rfl) ?_
      refine lv_iconst (v := 1) hx hb dX6_addOrder_24 (by decide) ?_
      refine lv_sipush (v := 500) hx hb dX6_addOrder_25 (by decide) ?_
      refine z_calli (va_runS (As := [.int w9, .int 1, .int 500]) (rest := []) ⟨hx, hb, hml, hown, hts⟩ (c6_lies l D cy base w0 y r B w9 1 500 ) (va_cwS 3 hts gX6_addOrder_X6_lies rfl rfl rfl (by decide +kernel) ⟨Nat.le_of_ble_eq_true rfl, Nat.le_of_ble_eq_true rfl⟩) (z_preS hA hS hH) rfl rfl hl.1 rfl (lv_room (Nat.le_of_ble_eq_true rfl)) dX6_addOrder_28 ⟨Nat.le_of_ble_eq_true rfl, Nat.le_of_ble_eq_true rfl⟩) hS (fun r_k_27 u_k_27 H locs hw_k_27 hH hz_k_27 hS => ?_)
      rcases hw_k_27 with ⟨h_k_27_0, rfl, hu_k_27⟩ | ⟨h_k_27_0, rfl, hu_k_27⟩
      · rw [hu_k_27] at hH
        refine lv_if_eq (tgt := 50) hx hb dX6_addOrder_31 (by decide) (fun c_28 => absurd c_28 (by decide)) (fun _ => ?_)
        refine lv_iload hx hb dX6_addOrder_34 (lv_at hl 5 rfl) ?_
        refine lv_iconst (v := 0) hx hb dX6_addOrder_36 (by decide) ?_
        refine lv_sipush (v := 1000) hx hb dX6_addOrder_37 (by decide) ?_
        refine z_calli (va_runS (As := [.int g9, .int 0, .int 1000]) (rest := []) ⟨hx, hb, hml, hown, hts⟩ (c6_lies l D cy base w0 y r B g9 0 1000 ) (va_cwS 3 hts gX6_addOrder_X6_lies rfl rfl rfl (by decide +kernel) ⟨Nat.le_of_ble_eq_true rfl, Nat.le_of_ble_eq_true rfl⟩) (z_preS hA hS hH) rfl rfl hl.1 rfl (lv_room (Nat.le_of_ble_eq_true rfl)) dX6_addOrder_40 ⟨Nat.le_of_ble_eq_true rfl, Nat.le_of_ble_eq_true rfl⟩) hS (fun r_k_29 u_k_29 H locs hw_k_29 hH hz_k_29 hS => ?_)
        rcases hw_k_29 with ⟨h_k_29_0, rfl, hu_k_29⟩ | ⟨h_k_29_0, rfl, hu_k_29⟩
        · rw [hu_k_29] at hH
          refine lv_if_eq (tgt := 50) hx hb dX6_addOrder_43 (by decide) (fun c_30 => absurd c_30 (by decide)) (fun _ => ?_)
          refine lv_iconst (v := 1) hx hb dX6_addOrder_46 (by decide) ?_
          refine lv_goto (tgt := 51) hx hb dX6_addOrder_47 (by decide) ?_
          refine lv_istore (lv' := [(6, .int 1), (5, .int 0), (0, .ref y), (1, .int s9), (2, .int k9), (3, .int w9), (4, .int g9)]) hx hb dX6_addOrder_51 hl (by decide) rfl (fun ls hl => ?_)
          refine lv_aload_n hx hb dX6_addOrder_53 rfl (lv_at hl 2 rfl) ?_
          refine lv_iload hx hb dX6_addOrder_54 (lv_at hl 1 rfl) ?_
          refine lv_if_ne (tgt := 63) hx hb dX6_addOrder_56 (by decide) (fun c_31 => absurd c_31 (by decide)) (fun _ => ?_)
          refine lv_iconst (v := 1) hx hb dX6_addOrder_59 (by decide) ?_
          refine lv_goto (tgt := 86) hx hb dX6_addOrder_60 (by decide) ?_
          refine z_calli (va_runV (As := [.int 1]) (rest := []) ⟨hx, hb, hml, hown, hts⟩ (c6_fails1 l D cy base w0 y r B  ) (cwV 1 hts gX6_addOrder_X6_fails rfl rfl rfl (by decide +kernel) ⟨Nat.le_of_ble_eq_true rfl, Nat.le_of_ble_eq_true rfl⟩) (z_preV hA hS hH (m_recv hA hH)) rfl rfl hl.1 rfl (lv_room (Nat.le_of_ble_eq_true rfl)) dX6_addOrder_86 ⟨Nat.le_of_ble_eq_true rfl, Nat.le_of_ble_eq_true rfl⟩) hS (fun r_k_32 u_k_32 H locs hw_k_32 hH hz_k_32 hS => ?_)
          rcases hw_k_32 with ⟨rfl, hu_k_32⟩
          rw [hu_k_32] at hH
          refine lv_if_eq (tgt := 94) hx hb dX6_addOrder_89 (by decide) (fun c_33 => absurd c_33 (by decide)) (fun _ => ?_)
          refine lv_iconst (v := 0) hx hb dX6_addOrder_92 (by decide) ?_
          exact z_iret hx hb hr hlocks hH hS (by
            have hc : (cd_addOrder B s9 k9 w9 g9) = 1 := by first | (simp [cd_addOrder, h_k_1_0, h_k_3_0, h_k_27_0, h_k_29_0]; done) | (simp_all [cd_addOrder]; done)
            exact Or.inr ⟨by rw [hc]; decide, by rw [hc]⟩) (by decide) (by decide) dX6_addOrder_93
        · rw [hu_k_29] at hH
          refine lv_if_eq (tgt := 50) hx hb dX6_addOrder_43 (by decide) (fun _ => ?_) (fun c_34 => absurd c_34 (by decide))
          refine lv_iconst (v := 0) hx hb dX6_addOrder_50 (by decide) ?_
          refine lv_istore (lv' := [(6, .int 0), (5, .int 0), (0, .ref y), (1, .int s9), (2, .int k9), (3, .int w9), (4, .int g9)]) hx hb dX6_addOrder_51 hl (by decide) rfl (fun ls hl => ?_)
          refine lv_aload_n hx hb dX6_addOrder_53 rfl (lv_at hl 2 rfl) ?_
          refine lv_iload hx hb dX6_addOrder_54 (lv_at hl 1 rfl) ?_
          refine lv_if_ne (tgt := 63) hx hb dX6_addOrder_56 (by decide) (fun c_35 => absurd c_35 (by decide)) (fun _ => ?_)
          refine lv_iconst (v := 1) hx hb dX6_addOrder_59 (by decide) ?_
          refine lv_goto (tgt := 86) hx hb dX6_addOrder_60 (by decide) ?_
          refine z_calli (va_runV (As := [.int 1]) (rest := []) ⟨hx, hb, hml, hown, hts⟩ (c6_fails1 l D cy base w0 y r B  ) (cwV 1 hts gX6_addOrder_X6_fails rfl rfl rfl (by decide +kernel) ⟨Nat.le_of_ble_eq_true rfl, Nat.le_of_ble_eq_true rfl⟩) (z_preV hA hS hH (m_recv hA hH)) rfl rfl hl.1 rfl (lv_room (Nat.le_of_ble_eq_true rfl)) dX6_addOrder_86 ⟨Nat.le_of_ble_eq_true rfl, Nat.le_of_ble_eq_true rfl⟩) hS (fun r_k_36 u_k_36 H locs hw_k_36 hH hz_k_36 hS => ?_)
          rcases hw_k_36 with ⟨rfl, hu_k_36⟩
          rw [hu_k_36] at hH
          refine lv_if_eq (tgt := 94) hx hb dX6_addOrder_89 (by decide) (fun c_37 => absurd c_37 (by decide)) (fun _ => ?_)
          refine lv_iconst (v := 0) hx hb dX6_addOrder_92 (by decide) ?_
          exact z_iret hx hb hr hlocks hH hS (by
            have hc : (cd_addOrder B s9 k9 w9 g9) = 1 := by first | (simp [cd_addOrder, h_k_1_0, h_k_3_0, h_k_27_0, h_k_29_0]; done) | (simp_all [cd_addOrder]; done)
            exact Or.inr ⟨by rw [hc]; decide, by rw [hc]⟩) (by decide) (by decide) dX6_addOrder_93
      · rw [hu_k_27] at hH
        refine lv_if_eq (tgt := 50) hx hb dX6_addOrder_31 (by decide) (fun _ => ?_) (fun c_38 => absurd c_38 (by decide))
        refine lv_iconst (v := 0) hx hb dX6_addOrder_50 (by decide) ?_
        refine lv_istore (lv' := [(6, .int 0), (5, .int 0), (0, .ref y), (1, .int s9), (2, .int k9), (3, .int w9), (4, .int g9)]) hx hb dX6_addOrder_51 hl (by decide) rfl (fun ls hl => ?_)
        refine lv_aload_n hx hb dX6_addOrder_53 rfl (lv_at hl 2 rfl) ?_
        refine lv_iload hx hb dX6_addOrder_54 (lv_at hl 1 rfl) ?_
        refine lv_if_ne (tgt := 63) hx hb dX6_addOrder_56 (by decide) (fun c_39 => absurd c_39 (by decide)) (fun _ => ?_)
        refine lv_iconst (v := 1) hx hb dX6_addOrder_59 (by decide) ?_
        refine lv_goto (tgt := 86) hx hb dX6_addOrder_60 (by decide) ?_
        refine z_calli (va_runV (As := [.int 1]) (rest := []) ⟨hx, hb, hml, hown, hts⟩ (c6_fails1 l D cy base w0 y r B  ) (cwV 1 hts gX6_addOrder_X6_fails rfl rfl rfl (by decide +kernel) ⟨Nat.le_of_ble_eq_true rfl, Nat.le_of_ble_eq_true rfl⟩) (z_preV hA hS hH (m_recv hA hH)) rfl rfl hl.1 rfl (lv_room (Nat.le_of_ble_eq_true rfl)) dX6_addOrder_86 ⟨Nat.le_of_ble_eq_true rfl, Nat.le_of_ble_eq_true rfl⟩) hS (fun r_k_40 u_k_40 H locs hw_k_40 hH hz_k_40 hS => ?_)
        rcases hw_k_40 with ⟨rfl, hu_k_40⟩
        rw [hu_k_40] at hH
        refine lv_if_eq (tgt := 94) hx hb dX6_addOrder_89 (by decide) (fun c_41 => absurd c_41 (by decide)) (fun _ => ?_)
        refine lv_iconst (v := 0) hx hb dX6_addOrder_92 (by decide) ?_
        exact z_iret hx hb hr hlocks hH hS (by
          have hc : (cd_addOrder B s9 k9 w9 g9) = 1 := by first | (simp [cd_addOrder, h_k_1_0, h_k_3_0, h_k_27_0]; done) | (simp_all [cd_addOrder]; done)
          exact Or.inr ⟨by rw [hc]; decide, by rw [hc]⟩) (by decide) (by decide) dX6_addOrder_93
  · rw [hu_k_1] at hH
    refine lv_if_eq (tgt := 20) hx hb dX6_addOrder_6 (by decide) (fun _ => ?_) (fun c_42 => absurd c_42 (by decide))
    refine lv_iconst (v := 0) hx hb dX6_addOrder_20 (by decide) ?_
    refine lv_istore (lv' := [(5, .int 0), (0, .ref y), (1, .int s9), (2, .int k9), (3, .int w9), (4, .int g9)]) hx hb dX6_addOrder_21 hl (by decide) rfl (fun ls hl => ?_)
    refine lv_iload_n hx hb dX6_addOrder_23 rfl (lv_at hl 4 rfl) ?_
    refine lv_iconst (v := 1) hx hb dX6_addOrder_24 (by decide) ?_
    refine lv_sipush (v := 500) hx hb dX6_addOrder_25 (by decide) ?_
    refine z_calli (va_runS (As := [.int w9, .int 1, .int 500]) (rest := []) ⟨hx, hb, hml, hown, hts⟩ (c6_lies l D cy base w0 y r B w9 1 500 ) (va_cwS 3 hts gX6_addOrder_X6_lies rfl rfl rfl (by decide +kernel) ⟨Nat.le_of_ble_eq_true rfl, Nat.le_of_ble_eq_true rfl⟩) (z_preS hA hS hH) rfl rfl hl.1 rfl (lv_room (Nat.le_of_ble_eq_true rfl)) dX6_addOrder_28 ⟨Nat.le_of_ble_eq_true rfl, Nat.le_of_ble_eq_true rfl⟩) hS (fun r_k_43 u_k_43 H locs hw_k_43 hH hz_k_43 hS => ?_)
    rcases hw_k_43 with ⟨h_k_43_0, rfl, hu_k_43⟩ | ⟨h_k_43_0, rfl, hu_k_43⟩
    · rw [hu_k_43] at hH
      refine lv_if_eq (tgt := 50) hx hb dX6_addOrder_31 (by decide) (fun c_44 => absurd c_44 (by decide)) (fun _ => ?_)
      refine lv_iload hx hb dX6_addOrder_34 (lv_at hl 5 rfl) ?_
      refine lv_iconst (v := 0) hx hb dX6_addOrder_36 (by decide) ?_
      refine lv_sipush (v := 1000) hx hb dX6_addOrder_37 (by decide) ?_
      refine z_calli (va_runS (As := [.int g9, .int 0, .int 1000]) (rest := []) ⟨hx, hb, hml, hown, hts⟩ (c6_lies l D cy base w0 y r B g9 0 1000 ) (va_cwS 3 hts gX6_addOrder_X6_lies rfl rfl rfl (by decide +kernel) ⟨Nat.le_of_ble_eq_true rfl, Nat.le_of_ble_eq_true rfl⟩) (z_preS hA hS hH) rfl rfl hl.1 rfl (lv_room (Nat.le_of_ble_eq_true rfl)) dX6_addOrder_40 ⟨Nat.le_of_ble_eq_true rfl, Nat.le_of_ble_eq_true rfl⟩) hS (fun r_k_45 u_k_45 H locs hw_k_45 hH hz_k_45 hS => ?_)
      rcases hw_k_45 with ⟨h_k_45_0, rfl, hu_k_45⟩ | ⟨h_k_45_0, rfl, hu_k_45⟩
      · rw [hu_k_45] at hH
        refine lv_if_eq (tgt := 50) hx hb dX6_addOrder_43 (by decide) (fun c_46 => absurd c_46 (by decide)) (fun _ => ?_)
        refine lv_iconst (v := 1) hx hb dX6_addOrder_46 (by decide) ?_
        refine lv_goto (tgt := 51) hx hb dX6_addOrder_47 (by decide) ?_
        refine lv_istore (lv' := [(6, .int 1), (5, .int 0), (0, .ref y), (1, .int s9), (2, .int k9), (3, .int w9), (4, .int g9)]) hx hb dX6_addOrder_51 hl (by decide) rfl (fun ls hl => ?_)
        refine lv_aload_n hx hb dX6_addOrder_53 rfl (lv_at hl 2 rfl) ?_
        refine lv_iload hx hb dX6_addOrder_54 (lv_at hl 1 rfl) ?_
        refine lv_if_ne (tgt := 63) hx hb dX6_addOrder_56 (by decide) (fun c_47 => absurd c_47 (by decide)) (fun _ => ?_)
        refine lv_iconst (v := 1) hx hb dX6_addOrder_59 (by decide) ?_
        refine lv_goto (tgt := 86) hx hb dX6_addOrder_60 (by decide) ?_
        refine z_calli (va_runV (As := [.int 1]) (rest := []) ⟨hx, hb, hml, hown, hts⟩ (c6_fails1 l D cy base w0 y r B  ) (cwV 1 hts gX6_addOrder_X6_fails rfl rfl rfl (by decide +kernel) ⟨Nat.le_of_ble_eq_true rfl, Nat.le_of_ble_eq_true rfl⟩) (z_preV hA hS hH (m_recv hA hH)) rfl rfl hl.1 rfl (lv_room (Nat.le_of_ble_eq_true rfl)) dX6_addOrder_86 ⟨Nat.le_of_ble_eq_true rfl, Nat.le_of_ble_eq_true rfl⟩) hS (fun r_k_48 u_k_48 H locs hw_k_48 hH hz_k_48 hS => ?_)
        rcases hw_k_48 with ⟨rfl, hu_k_48⟩
        rw [hu_k_48] at hH
        refine lv_if_eq (tgt := 94) hx hb dX6_addOrder_89 (by decide) (fun c_49 => absurd c_49 (by decide)) (fun _ => ?_)
        refine lv_iconst (v := 0) hx hb dX6_addOrder_92 (by decide) ?_
        exact z_iret hx hb hr hlocks hH hS (by
          have hc : (cd_addOrder B s9 k9 w9 g9) = 1 := by first | (simp [cd_addOrder, h_k_1_0, h_k_43_0, h_k_45_0]; done) | (simp_all [cd_addOrder]; done)
          exact Or.inr ⟨by rw [hc]; decide, by rw [hc]⟩) (by decide) (by decide) dX6_addOrder_93
      · rw [hu_k_45] at hH
        refine lv_if_eq (tgt := 50) hx hb dX6_addOrder_43 (by decide) (fun _ => ?_) (fun c_50 => absurd c_50 (by decide))
        refine lv_iconst (v := 0) hx hb dX6_addOrder_50 (by decide) ?_
        refine lv_istore (lv' := [(6, .int 0), (5, .int 0), (0, .ref y), (1, .int s9), (2, .int k9), (3, .int w9), (4, .int g9)]) hx hb dX6_addOrder_51 hl (by decide) rfl (fun ls hl => ?_)
        refine lv_aload_n hx hb dX6_addOrder_53 rfl (lv_at hl 2 rfl) ?_
        refine lv_iload hx hb dX6_addOrder_54 (lv_at hl 1 rfl) ?_
        refine lv_if_ne (tgt := 63) hx hb dX6_addOrder_56 (by decide) (fun c_51 => absurd c_51 (by decide)) (fun _ => ?_)
        refine lv_iconst (v := 1) hx hb dX6_addOrder_59 (by decide) ?_
        refine lv_goto (tgt := 86) hx hb dX6_addOrder_60 (by decide) ?_
        refine z_calli (va_runV (As := [.int 1]) (rest := []) ⟨hx, hb, hml, hown, hts⟩ (c6_fails1 l D cy base w0 y r B  ) (cwV 1 hts gX6_addOrder_X6_fails rfl rfl rfl (by decide +kernel) ⟨Nat.le_of_ble_eq_true rfl, Nat.le_of_ble_eq_true rfl⟩) (z_preV hA hS hH (m_recv hA hH)) rfl rfl hl.1 rfl (lv_room (Nat.le_of_ble_eq_true rfl)) dX6_addOrder_86 ⟨Nat.le_of_ble_eq_true rfl, Nat.le_of_ble_eq_true rfl⟩) hS (fun r_k_52 u_k_52 H locs hw_k_52 hH hz_k_52 hS => ?_)
        rcases hw_k_52 with ⟨rfl, hu_k_52⟩
        rw [hu_k_52] at hH
        refine lv_if_eq (tgt := 94) hx hb dX6_addOrder_89 (by decide) (fun c_53 => absurd c_53 (by decide)) (fun _ => ?_)
        refine lv_iconst (v := 0) hx hb dX6_addOrder_92 (by decide) ?_
        exact z_iret hx hb hr hlocks hH hS (by
          have hc : (cd_addOrder B s9 k9 w9 g9) = 1 := by first | (simp [cd_addOrder, h_k_1_0, h_k_43_0, h_k_45_0]; done) | (simp_all [cd_addOrder]; done)
          exact Or.inr ⟨by rw [hc]; decide, by rw [hc]⟩) (by decide) (by decide) dX6_addOrder_93
    · rw [hu_k_43] at hH
      refine lv_if_eq (tgt := 50) hx hb dX6_addOrder_31 (by decide) (fun _ => ?_) (fun c_54 => absurd c_54 (by decide))
      refine lv_iconst (v := 0) hx hb dX6_addOrder_50 (by decide) ?_
      refine lv_istore (lv' := [(6, .int 0), (5, .int 0), (0, .ref y), (1, .int s9), (2, .int k9), (3, .int w9), (4, .int g9)]) hx hb dX6_addOrder_51 hl (by decide) rfl (fun ls hl => ?_)
      refine lv_aload_n hx hb dX6_addOrder_53 rfl (lv_at hl 2 rfl) ?_
      refine lv_iload hx hb dX6_addOrder_54 (lv_at hl 1 rfl) ?_
      refine lv_if_ne (tgt := 63) hx hb dX6_addOrder_56 (by decide) (fun c_55 => absurd c_55 (by decide)) (fun _ => ?_)
      refine lv_iconst (v := 1) hx hb dX6_addOrder_59 (by decide) ?_
      refine lv_goto (tgt := 86) hx hb dX6_addOrder_60 (by decide) ?_
      refine z_calli (va_runV (As := [.int 1]) (rest := []) ⟨hx, hb, hml, hown, hts⟩ (c6_fails1 l D cy base w0 y r B  ) (cwV 1 hts gX6_addOrder_X6_fails rfl rfl rfl (by decide +kernel) ⟨Nat.le_of_ble_eq_true rfl, Nat.le_of_ble_eq_true rfl⟩) (z_preV hA hS hH (m_recv hA hH)) rfl rfl hl.1 rfl (lv_room (Nat.le_of_ble_eq_true rfl)) dX6_addOrder_86 ⟨Nat.le_of_ble_eq_true rfl, Nat.le_of_ble_eq_true rfl⟩) hS (fun r_k_56 u_k_56 H locs hw_k_56 hH hz_k_56 hS => ?_)
      rcases hw_k_56 with ⟨rfl, hu_k_56⟩
      rw [hu_k_56] at hH
      refine lv_if_eq (tgt := 94) hx hb dX6_addOrder_89 (by decide) (fun c_57 => absurd c_57 (by decide)) (fun _ => ?_)
      refine lv_iconst (v := 0) hx hb dX6_addOrder_92 (by decide) ?_
      exact z_iret hx hb hr hlocks hH hS (by
        have hc : (cd_addOrder B s9 k9 w9 g9) = 1 := by first | (simp [cd_addOrder, h_k_1_0, h_k_43_0]; done) | (simp_all [cd_addOrder]; done)
        exact Or.inr ⟨by rw [hc]; decide, by rw [hc]⟩) (by decide) (by decide) dX6_addOrder_93
set_option maxHeartbeats 4000000 in
set_option maxRecDepth 100000 in
theorem c6_takeOff (l : Launch) (D : va_G) (cy : Nat → ClassId) (base : Nat) (w0 : zW) (y : Nat) (r : Nat → Nat) (B : Nat → Nat → Int32) (its : Int32) (hinv : mInv B) : Met l yX6_takeOff wsX6_takeOff ({ frames := 2, cells := 0, slots := 0, locals := 43 }) (zPc D cy base (mH D cy base w0 y r) [.ref y, .int its] B) (zQi base (mH D cy base w0 y r) (fun (r0 : Int32) (u0 : Nat → Nat → Int32) => ((cd_takeOff B its) = 0 ∧ r0 = (an_of (z2 B 27 0 0) 11 its) ∧ u0 = (up_takeOff (z2 B 27 0 0) its)) ∨ (¬ (cd_takeOff B its) = 0 ∧ u0 = (z2 B 27 0 (cd_takeOff B its))))) 0 0 (fun q => base ≤ q) := by
  refine Met.ofW (cc := cX6_takeOff) (maxL := 4) (ret := (some .int)) (by decide) rfl ?_
  intro p e s m args below meth c s₁ B9 hml hv
  obtain ⟨rfl, hA, hH⟩ := hv
  have hx := B9.exec
  have hb := B9.bytes
  have hr := B9.returns
  have hts := atoms_spec (ws := wsX6_takeOff) B9.pre
  have hown : s.vm.findClass RX6 = some m.cls := findClass_of_methodNamed B9.named
  have hlocks := B9.notSynchronized
  have hi6 : ∀ w ∈ wsX60, w ∈ wsX6_takeOff := by decide +kernel
  have hS : va_S (fun q : Nat => base ≤ q) s.heap s.heap [] := va_S.rf
  have hl := lv_entry ([.ref y, .int its]) (n := 4) (Nat.le_of_ble_eq_true rfl)
  rw [lg_entry_eq]
  generalize (lg_sl ([.ref y, .int its]) ++ List.replicate (4 - (lg_sl ([.ref y, .int its])).length) Slot.unset).toArray = ls at hl ⊢
  have hl : lv_has ls 4 [(0, .ref y), (1, .int its)] := hl
  rcases vP_split hinv its with ⟨i, rfl, hi, hi10, hvP, hix⟩ | hvP
  · obtain ⟨h10, h50⟩ := mInv_oc50 hinv hi
    refine lv_aload_n hx hb dX6_takeOff_0 rfl (lv_at hl 0 rfl) ?_
    refine lv_iload_n hx hb dX6_takeOff_1 rfl (lv_at hl 1 rfl) ?_
    refine z_calli (va_runV (As := [.int (nI i)]) (rest := []) ⟨hx, hb, hml, hown, hts⟩ (c6_isPerson_t l D cy base w0 y r B i hvP) (cwV 1 hts gX6_takeOff_X6_isPerson rfl rfl rfl (by decide +kernel) ⟨Nat.le_of_ble_eq_true rfl, Nat.le_of_ble_eq_true rfl⟩) (z_preV hA hS hH (m_recv hA hH)) rfl rfl hl.1 rfl (lv_room (Nat.le_of_ble_eq_true rfl)) dX6_takeOff_2 ⟨Nat.le_of_ble_eq_true rfl, Nat.le_of_ble_eq_true rfl⟩) hS (fun r_k_1 u_k_1 H locs hw_k_1 hH hz_k_1 hS => ?_)
    rcases hw_k_1 with ⟨rfl, hu_k_1⟩
    rw [hu_k_1] at hH
    refine lv_istore_n (lv' := [(2, .int 1), (0, .ref y), (1, .int (nI i))]) hx hb dX6_takeOff_5 rfl hl (by decide) rfl (fun ls hl => ?_)
    refine lv_aload_n hx hb dX6_takeOff_6 rfl (lv_at hl 1 rfl) ?_
    refine lv_iload_n hx hb dX6_takeOff_7 rfl (lv_at hl 0 rfl) ?_
    refine lv_if_ne (tgt := 15) hx hb dX6_takeOff_8 (by decide) (fun _ => ?_) (fun c_2 => absurd c_2 (by decide))
    refine lv_aload_n hx hb dX6_takeOff_15 rfl (lv_at hl 1 rfl) ?_
    refine m_arr (f := 11) (by unfold mArr; decide) hx hb hts hi6 hown hA hH (hts (.fieldLink RX6 38 "ParoleCardsModel" "on" "[I") (by decide +kernel)) rfl dX6_takeOff_16 ?_
    refine lv_iload_n hx hb dX6_takeOff_19 rfl (lv_at hl 2 rfl) ?_
    refine m_iald (f := 11) (v := (B 11 i)) (by unfold mArr; decide) rfl hx hb hA hH i rfl (by rw [show mLen 11 = 10 from rfl]; omega) rfl dX6_takeOff_20 ?_
    refine lv_iconst (v := (-1)) hx hb dX6_takeOff_21 (by decide) ?_
    refine lv_icmp_ne (tgt := 29) hx hb dX6_takeOff_22 (by decide) (fun c_3 => ?_) (fun c_3 => ?_)
    · refine lv_iconst (v := 0) hx hb dX6_takeOff_29 (by decide) ?_
      refine z_calli (va_runV (As := [.int 0]) (rest := []) ⟨hx, hb, hml, hown, hts⟩ (c6_fails0 l D cy base w0 y r B  ) (cwV 1 hts gX6_takeOff_X6_fails rfl rfl rfl (by decide +kernel) ⟨Nat.le_of_ble_eq_true rfl, Nat.le_of_ble_eq_true rfl⟩) (z_preV hA hS hH (m_recv hA hH)) rfl rfl hl.1 rfl (lv_room (Nat.le_of_ble_eq_true rfl)) dX6_takeOff_30 ⟨Nat.le_of_ble_eq_true rfl, Nat.le_of_ble_eq_true rfl⟩) hS (fun r_k_4 u_k_4 H locs hw_k_4 hH hz_k_4 hS => ?_)
      rcases hw_k_4 with ⟨rfl, hu_k_4⟩
      rw [hu_k_4] at hH
      refine lv_if_eq (tgt := 38) hx hb dX6_takeOff_33 (by decide) (fun _ => ?_) (fun c_5 => absurd c_5 (by decide))
      refine lv_aload_n hx hb dX6_takeOff_38 rfl (lv_at hl 1 rfl) ?_
      refine m_arr (f := 11) (by unfold mArr; decide) hx hb hts hi6 hown hA hH (hts (.fieldLink RX6 38 "ParoleCardsModel" "on" "[I") (by decide +kernel)) rfl dX6_takeOff_39 ?_
      refine lv_iload_n hx hb dX6_takeOff_42 rfl (lv_at hl 2 rfl) ?_
      refine m_iald (f := 11) (v := (B 11 i)) (by unfold mArr; decide) rfl hx hb hA hH i rfl (by rw [show mLen 11 = 10 from rfl]; omega) rfl dX6_takeOff_43 ?_
      refine lv_istore_n (lv' := [(3, .int (B 11 i)), (2, .int 1), (0, .ref y), (1, .int (nI i))]) hx hb dX6_takeOff_44 rfl hl (by decide) rfl (fun ls hl => ?_)
      refine lv_aload_n hx hb dX6_takeOff_45 rfl (lv_at hl 2 rfl) ?_
      refine m_arr (f := 11) (by unfold mArr; decide) hx hb hts hi6 hown hA hH (hts (.fieldLink RX6 38 "ParoleCardsModel" "on" "[I") (by decide +kernel)) rfl dX6_takeOff_46 ?_
      refine lv_iload_n hx hb dX6_takeOff_49 rfl (lv_at hl 3 rfl) ?_
      refine lv_iconst (v := (-1)) hx hb dX6_takeOff_50 (by decide) ?_
      refine m_iast (f := 11) (by unfold mArr; decide) rfl hx hb hA hH hS i rfl (by rw [show mLen 11 = 10 from rfl]; omega) dX6_takeOff_51 (fun H locs hH hS => ?_)
      refine lv_iload_n hx hb dX6_takeOff_52 rfl (lv_at hl 0 rfl) ?_
      exact z_iret hx hb hr hlocks hH hS (by
        have hc : (cd_takeOff B (nI i)) = 0 := by first | (simp [cd_takeOff, c_3, hvP, hix]; done) | (simp_all [cd_takeOff]; done)
        refine Or.inl ⟨hc, ?_, ?_⟩ <;> (simp [up_takeOff, an_of, c_3, hvP, hix, z27_0, z27_1, z27_2, z27_3, z27_4, z27_5, z27_6, z27_7, z27_8, z27_9, z27_10, z27_11, z27_12, z27_13, z27_14, z27_15, z27_16, z27_17, z27_18, z27_19, z27_20, z27_21, z27_22, z27_23, z27_24, z27_25, z27_26, z27_oc, z27_ox, z27_kx, z27_nP, z27_nO]; done)) (by decide) (by decide) dX6_takeOff_53
    · refine lv_iconst (v := 2) hx hb dX6_takeOff_25 (by decide) ?_
      refine lv_goto (tgt := 30) hx hb dX6_takeOff_26 (by decide) ?_
      refine z_calli (va_runV (As := [.int 2]) (rest := []) ⟨hx, hb, hml, hown, hts⟩ (c6_fails2 l D cy base w0 y r B  ) (cwV 1 hts gX6_takeOff_X6_fails rfl rfl rfl (by decide +kernel) ⟨Nat.le_of_ble_eq_true rfl, Nat.le_of_ble_eq_true rfl⟩) (z_preV hA hS hH (m_recv hA hH)) rfl rfl hl.1 rfl (lv_room (Nat.le_of_ble_eq_true rfl)) dX6_takeOff_30 ⟨Nat.le_of_ble_eq_true rfl, Nat.le_of_ble_eq_true rfl⟩) hS (fun r_k_6 u_k_6 H locs hw_k_6 hH hz_k_6 hS => ?_)
      rcases hw_k_6 with ⟨rfl, hu_k_6⟩
      rw [hu_k_6] at hH
      refine lv_if_eq (tgt := 38) hx hb dX6_takeOff_33 (by decide) (fun c_7 => absurd c_7 (by decide)) (fun _ => ?_)
      refine lv_iconst (v := 0) hx hb dX6_takeOff_36 (by decide) ?_
      exact z_iret hx hb hr hlocks hH hS (by
        have hc : (cd_takeOff B (nI i)) = 2 := by first | (simp [cd_takeOff, c_3, hvP, hix]; done) | (simp_all [cd_takeOff]; done)
        exact Or.inr ⟨by rw [hc]; decide, by rw [hc]⟩) (by decide) (by decide) dX6_takeOff_37
  · refine lv_aload_n hx hb dX6_takeOff_0 rfl (lv_at hl 0 rfl) ?_
    refine lv_iload_n hx hb dX6_takeOff_1 rfl (lv_at hl 1 rfl) ?_
    refine z_calli (va_runV (As := [.int its]) (rest := []) ⟨hx, hb, hml, hown, hts⟩ (c6_isPerson_f l D cy base w0 y r B its hvP) (cwV 1 hts gX6_takeOff_X6_isPerson rfl rfl rfl (by decide +kernel) ⟨Nat.le_of_ble_eq_true rfl, Nat.le_of_ble_eq_true rfl⟩) (z_preV hA hS hH (m_recv hA hH)) rfl rfl hl.1 rfl (lv_room (Nat.le_of_ble_eq_true rfl)) dX6_takeOff_2 ⟨Nat.le_of_ble_eq_true rfl, Nat.le_of_ble_eq_true rfl⟩) hS (fun r_k_8 u_k_8 H locs hw_k_8 hH hz_k_8 hS => ?_)
    rcases hw_k_8 with ⟨rfl, hu_k_8⟩
    rw [hu_k_8] at hH
    refine lv_istore_n (lv' := [(2, .int 0), (0, .ref y), (1, .int its)]) hx hb dX6_takeOff_5 rfl hl (by decide) rfl (fun ls hl => ?_)
    refine lv_aload_n hx hb dX6_takeOff_6 rfl (lv_at hl 1 rfl) ?_
    refine lv_iload_n hx hb dX6_takeOff_7 rfl (lv_at hl 0 rfl) ?_
    refine lv_if_ne (tgt := 15) hx hb dX6_takeOff_8 (by decide) (fun c_9 => absurd c_9 (by decide)) (fun _ => ?_)
    refine lv_iconst (v := 1) hx hb dX6_takeOff_11 (by decide) ?_
    refine lv_goto (tgt := 30) hx hb dX6_takeOff_12 (by decide) ?_
    refine z_calli (va_runV (As := [.int 1]) (rest := []) ⟨hx, hb, hml, hown, hts⟩ (c6_fails1 l D cy base w0 y r B  ) (cwV 1 hts gX6_takeOff_X6_fails rfl rfl rfl (by decide +kernel) ⟨Nat.le_of_ble_eq_true rfl, Nat.le_of_ble_eq_true rfl⟩) (z_preV hA hS hH (m_recv hA hH)) rfl rfl hl.1 rfl (lv_room (Nat.le_of_ble_eq_true rfl)) dX6_takeOff_30 ⟨Nat.le_of_ble_eq_true rfl, Nat.le_of_ble_eq_true rfl⟩) hS (fun r_k_10 u_k_10 H locs hw_k_10 hH hz_k_10 hS => ?_)
    rcases hw_k_10 with ⟨rfl, hu_k_10⟩
    rw [hu_k_10] at hH
    refine lv_if_eq (tgt := 38) hx hb dX6_takeOff_33 (by decide) (fun c_11 => absurd c_11 (by decide)) (fun _ => ?_)
    refine lv_iconst (v := 0) hx hb dX6_takeOff_36 (by decide) ?_
    exact z_iret hx hb hr hlocks hH hS (by
      have hc : (cd_takeOff B its) = 1 := by first | (simp [cd_takeOff, hvP]; done) | (simp_all [cd_takeOff]; done)
      exact Or.inr ⟨by rw [hc]; decide, by rw [hc]⟩) (by decide) (by decide) dX6_takeOff_37
set_option maxHeartbeats 4000000 in
set_option maxRecDepth 100000 in
theorem c6_left (l : Launch) (D : va_G) (cy : Nat → ClassId) (base : Nat) (w0 : zW) (y : Nat) (r : Nat → Nat) (B : Nat → Nat → Int32) (o : Int32) (hinv : mInv B) : Met l yX6_left wsX6_left ({ frames := 2, cells := 0, slots := 0, locals := 43 }) (zPc D cy base (mH D cy base w0 y r) [.ref y, .int o] B) (zQi base (mH D cy base w0 y r) (fun (r0 : Int32) (u0 : Nat → Nat → Int32) => ((cd_O B o) = 0 ∧ r0 = (an_of (z2 B 27 0 0) 25 o) ∧ u0 = ((z2 B 27 0 0))) ∨ (¬ (cd_O B o) = 0 ∧ u0 = (z2 B 27 0 (cd_O B o))))) 0 0 (fun q => base ≤ q) := by
  refine Met.ofW (cc := cX6_left) (maxL := 2) (ret := (some .int)) (by decide) rfl ?_
  intro p e s m args below meth c s₁ B9 hml hv
  obtain ⟨rfl, hA, hH⟩ := hv
  have hx := B9.exec
  have hb := B9.bytes
  have hr := B9.returns
  have hts := atoms_spec (ws := wsX6_left) B9.pre
  have hown : s.vm.findClass RX6 = some m.cls := findClass_of_methodNamed B9.named
  have hlocks := B9.notSynchronized
  have hi6 : ∀ w ∈ wsX60, w ∈ wsX6_left := by decide +kernel
  have hS : va_S (fun q : Nat => base ≤ q) s.heap s.heap [] := va_S.rf
  have hl := lv_entry ([.ref y, .int o]) (n := 2) (Nat.le_of_ble_eq_true rfl)
  rw [lg_entry_eq]
  generalize (lg_sl ([.ref y, .int o]) ++ List.replicate (2 - (lg_sl ([.ref y, .int o])).length) Slot.unset).toArray = ls at hl ⊢
  have hl : lv_has ls 2 [(0, .ref y), (1, .int o)] := hl
  rcases vO_split hinv o with ⟨j, rfl, hj, hj8, hvO, hjx⟩ | hvO
  · refine lv_aload_n hx hb dX6_left_0 rfl (lv_at hl 0 rfl) ?_
    refine lv_aload_n hx hb dX6_left_1 rfl (lv_at hl 0 rfl) ?_
    refine lv_iload_n hx hb dX6_left_2 rfl (lv_at hl 1 rfl) ?_
    refine z_calli (va_runV (As := [.int (nI j)]) (rest := [.ref y]) ⟨hx, hb, hml, hown, hts⟩ (c6_isOrder_t l D cy base w0 y r B j hvO) (cwV 1 hts gX6_left_X6_isOrder rfl rfl rfl (by decide +kernel) ⟨Nat.le_of_ble_eq_true rfl, Nat.le_of_ble_eq_true rfl⟩) (z_preV hA hS hH (m_recv hA hH)) rfl rfl hl.1 rfl (lv_room (Nat.le_of_ble_eq_true rfl)) dX6_left_3 ⟨Nat.le_of_ble_eq_true rfl, Nat.le_of_ble_eq_true rfl⟩) hS (fun r_k_1 u_k_1 H locs hw_k_1 hH hz_k_1 hS => ?_)
    rcases hw_k_1 with ⟨rfl, hu_k_1⟩
    rw [hu_k_1] at hH
    refine lv_if_eq (tgt := 13) hx hb dX6_left_6 (by decide) (fun c_2 => absurd c_2 (by decide)) (fun _ => ?_)
    refine lv_iconst (v := 0) hx hb dX6_left_9 (by decide) ?_
    refine lv_goto (tgt := 14) hx hb dX6_left_10 (by decide) ?_
    refine z_calli (va_runV (As := [.int 0]) (rest := []) ⟨hx, hb, hml, hown, hts⟩ (c6_fails0 l D cy base w0 y r B  ) (cwV 1 hts gX6_left_X6_fails rfl rfl rfl (by decide +kernel) ⟨Nat.le_of_ble_eq_true rfl, Nat.le_of_ble_eq_true rfl⟩) (z_preV hA hS hH (m_recv hA hH)) rfl rfl hl.1 rfl (lv_room (Nat.le_of_ble_eq_true rfl)) dX6_left_14 ⟨Nat.le_of_ble_eq_true rfl, Nat.le_of_ble_eq_true rfl⟩) hS (fun r_k_3 u_k_3 H locs hw_k_3 hH hz_k_3 hS => ?_)
    rcases hw_k_3 with ⟨rfl, hu_k_3⟩
    rw [hu_k_3] at hH
    refine lv_if_eq (tgt := 24) hx hb dX6_left_17 (by decide) (fun _ => ?_) (fun c_4 => absurd c_4 (by decide))
    refine lv_aload_n hx hb dX6_left_24 rfl (lv_at hl 0 rfl) ?_
    refine m_arr (f := 25) (by unfold mArr; decide) hx hb hts hi6 hown hA hH (hts (.fieldLink RX6 77 "ParoleCardsModel" "left" "[I") (by decide +kernel)) rfl dX6_left_25 ?_
    refine lv_iload_n hx hb dX6_left_28 rfl (lv_at hl 1 rfl) ?_
    refine m_iald (f := 25) (v := (B 25 j)) (by unfold mArr; decide) rfl hx hb hA hH j rfl (by rw [show mLen 25 = 8 from rfl]; omega) rfl dX6_left_29 ?_
    exact z_iret hx hb hr hlocks hH hS (by
      have hc : (cd_O B (nI j)) = 0 := by first | (simp [cd_O, hvO, hjx]; done) | (simp_all [cd_O]; done)
      refine Or.inl ⟨hc, ?_, ?_⟩ <;> (simp [an_of, hvO, hjx, z27_0, z27_1, z27_2, z27_3, z27_4, z27_5, z27_6, z27_7, z27_8, z27_9, z27_10, z27_11, z27_12, z27_13, z27_14, z27_15, z27_16, z27_17, z27_18, z27_19, z27_20, z27_21, z27_22, z27_23, z27_24, z27_25, z27_26, z27_oc, z27_ox, z27_kx, z27_nP, z27_nO]; done)) (by decide) (by decide) dX6_left_30
  · refine lv_aload_n hx hb dX6_left_0 rfl (lv_at hl 0 rfl) ?_
    refine lv_aload_n hx hb dX6_left_1 rfl (lv_at hl 0 rfl) ?_
    refine lv_iload_n hx hb dX6_left_2 rfl (lv_at hl 1 rfl) ?_
    refine z_calli (va_runV (As := [.int o]) (rest := [.ref y]) ⟨hx, hb, hml, hown, hts⟩ (c6_isOrder_f l D cy base w0 y r B o hvO) (cwV 1 hts gX6_left_X6_isOrder rfl rfl rfl (by decide +kernel) ⟨Nat.le_of_ble_eq_true rfl, Nat.le_of_ble_eq_true rfl⟩) (z_preV hA hS hH (m_recv hA hH)) rfl rfl hl.1 rfl (lv_room (Nat.le_of_ble_eq_true rfl)) dX6_left_3 ⟨Nat.le_of_ble_eq_true rfl, Nat.le_of_ble_eq_true rfl⟩) hS (fun r_k_5 u_k_5 H locs hw_k_5 hH hz_k_5 hS => ?_)
    rcases hw_k_5 with ⟨rfl, hu_k_5⟩
    rw [hu_k_5] at hH
    refine lv_if_eq (tgt := 13) hx hb dX6_left_6 (by decide) (fun _ => ?_) (fun c_6 => absurd c_6 (by decide))
    refine lv_iconst (v := 1) hx hb dX6_left_13 (by decide) ?_
    refine z_calli (va_runV (As := [.int 1]) (rest := []) ⟨hx, hb, hml, hown, hts⟩ (c6_fails1 l D cy base w0 y r B  ) (cwV 1 hts gX6_left_X6_fails rfl rfl rfl (by decide +kernel) ⟨Nat.le_of_ble_eq_true rfl, Nat.le_of_ble_eq_true rfl⟩) (z_preV hA hS hH (m_recv hA hH)) rfl rfl hl.1 rfl (lv_room (Nat.le_of_ble_eq_true rfl)) dX6_left_14 ⟨Nat.le_of_ble_eq_true rfl, Nat.le_of_ble_eq_true rfl⟩) hS (fun r_k_7 u_k_7 H locs hw_k_7 hH hz_k_7 hS => ?_)
    rcases hw_k_7 with ⟨rfl, hu_k_7⟩
    rw [hu_k_7] at hH
    refine lv_if_eq (tgt := 24) hx hb dX6_left_17 (by decide) (fun c_8 => absurd c_8 (by decide)) (fun _ => ?_)
    refine lv_iconst (v := 0) hx hb dX6_left_20 (by decide) ?_
    refine lv_goto (tgt := 30) hx hb dX6_left_21 (by decide) ?_
    exact z_iret hx hb hr hlocks hH hS (by
      have hc : (cd_O B o) = 1 := by first | (simp [cd_O, hvO]; done) | (simp_all [cd_O]; done)
      exact Or.inr ⟨by rw [hc]; decide, by rw [hc]⟩) (by decide) (by decide) dX6_left_30
set_option maxHeartbeats 4000000 in
set_option maxRecDepth 100000 in
theorem c6_account (l : Launch) (D : va_G) (cy : Nat → ClassId) (base : Nat) (w0 : zW) (y : Nat) (r : Nat → Nat) (B : Nat → Nat → Int32) (its : Int32) (a : Int32) (hinv : mInv B) : Met l yX6_account wsX6_account ({ frames := 2, cells := 0, slots := 0, locals := 43 }) (zPc D cy base (mH D cy base w0 y r) [.ref y, .int its, .int a] B) (zQi base (mH D cy base w0 y r) (fun (r0 : Int32) (u0 : Nat → Nat → Int32) => ((cd_account B its a) = 0 ∧ r0 = (an_account (z2 B 27 0 0) its a) ∧ u0 = ((z2 B 27 0 0))) ∨ (¬ (cd_account B its a) = 0 ∧ u0 = (z2 B 27 0 (cd_account B its a))))) 0 0 (fun q => base ≤ q) := by
  refine Met.ofW (cc := cX6_account) (maxL := 4) (ret := (some .int)) (by decide) rfl ?_
  intro p e s m args below meth c s₁ B9 hml hv
  obtain ⟨rfl, hA, hH⟩ := hv
  have hx := B9.exec
  have hb := B9.bytes
  have hr := B9.returns
  have hts := atoms_spec (ws := wsX6_account) B9.pre
  have hown : s.vm.findClass RX6 = some m.cls := findClass_of_methodNamed B9.named
  have hlocks := B9.notSynchronized
  have hi6 : ∀ w ∈ wsX60, w ∈ wsX6_account := by decide +kernel
  have hS : va_S (fun q : Nat => base ≤ q) s.heap s.heap [] := va_S.rf
  have hl := lv_entry ([.ref y, .int its, .int a]) (n := 4) (Nat.le_of_ble_eq_true rfl)
  rw [lg_entry_eq]
  generalize (lg_sl ([.ref y, .int its, .int a]) ++ List.replicate (4 - (lg_sl ([.ref y, .int its, .int a])).length) Slot.unset).toArray = ls at hl ⊢
  have hl : lv_has ls 4 [(0, .ref y), (1, .int its), (2, .int a)] := hl
  rcases vP_split hinv its with ⟨i, rfl, hi, hi10, hvP, hix⟩ | hvP
  · obtain ⟨h10, h50⟩ := mInv_oc50 hinv hi
    rcases vLies_const (v := a) (n := 4) (by decide) (m := 3) (by decide) with ⟨k, rfl, hk3, hvK, hkx⟩ | hvK
    · refine lv_aload_n hx hb dX6_account_0 rfl (lv_at hl 0 rfl) ?_
      refine lv_iload_n hx hb dX6_account_1 rfl (lv_at hl 1 rfl) ?_
      refine z_calli (va_runV (As := [.int (nI i)]) (rest := []) ⟨hx, hb, hml, hown, hts⟩ (c6_isPerson_t l D cy base w0 y r B i hvP) (cwV 1 hts gX6_account_X6_isPerson rfl rfl rfl (by decide +kernel) ⟨Nat.le_of_ble_eq_true rfl, Nat.le_of_ble_eq_true rfl⟩) (z_preV hA hS hH (m_recv hA hH)) rfl rfl hl.1 rfl (lv_room (Nat.le_of_ble_eq_true rfl)) dX6_account_2 ⟨Nat.le_of_ble_eq_true rfl, Nat.le_of_ble_eq_true rfl⟩) hS (fun r_k_1 u_k_1 H locs hw_k_1 hH hz_k_1 hS => ?_)
      rcases hw_k_1 with ⟨rfl, hu_k_1⟩
      rw [hu_k_1] at hH
      refine lv_if_eq (tgt := 21) hx hb dX6_account_5 (by decide) (fun c_2 => absurd c_2 (by decide)) (fun _ => ?_)
      refine lv_iload_n hx hb dX6_account_8 rfl (lv_at hl 2 rfl) ?_
      refine lv_iconst (v := 0) hx hb dX6_account_9 (by decide) ?_
      refine lv_iconst (v := 3) hx hb dX6_account_10 (by decide) ?_
      refine z_calli (va_runS (As := [.int (nI k), .int 0, .int 3]) (rest := []) ⟨hx, hb, hml, hown, hts⟩ (c6_lies l D cy base w0 y r B (nI k) 0 3 ) (va_cwS 3 hts gX6_account_X6_lies rfl rfl rfl (by decide +kernel) ⟨Nat.le_of_ble_eq_true rfl, Nat.le_of_ble_eq_true rfl⟩) (z_preS hA hS hH) rfl rfl hl.1 rfl (lv_room (Nat.le_of_ble_eq_true rfl)) dX6_account_11 ⟨Nat.le_of_ble_eq_true rfl, Nat.le_of_ble_eq_true rfl⟩) hS (fun r_k_3 u_k_3 H locs hw_k_3 hH hz_k_3 hS => ?_)
      rcases hw_k_3 with ⟨h_k_3_0, rfl, hu_k_3⟩ | ⟨h_k_3_0, rfl, hu_k_3⟩
      · rw [hu_k_3] at hH
        refine lv_if_eq (tgt := 21) hx hb dX6_account_14 (by decide) (fun c_4 => absurd c_4 (by decide)) (fun _ => ?_)
        refine lv_iconst (v := 1) hx hb dX6_account_17 (by decide) ?_
        refine lv_goto (tgt := 22) hx hb dX6_account_18 (by decide) ?_
        refine lv_istore_n (lv' := [(3, .int 1), (0, .ref y), (1, .int (nI i)), (2, .int (nI k))]) hx hb dX6_account_22 rfl hl (by decide) rfl (fun ls hl => ?_)
        refine lv_aload_n hx hb dX6_account_23 rfl (lv_at hl 1 rfl) ?_
        refine lv_iload_n hx hb dX6_account_24 rfl (lv_at hl 0 rfl) ?_
        refine lv_if_eq (tgt := 32) hx hb dX6_account_25 (by decide) (fun c_5 => absurd c_5 (by decide)) (fun _ => ?_)
        refine lv_iconst (v := 0) hx hb dX6_account_28 (by decide) ?_
        refine lv_goto (tgt := 33) hx hb dX6_account_29 (by decide) ?_
        refine z_calli (va_runV (As := [.int 0]) (rest := []) ⟨hx, hb, hml, hown, hts⟩ (c6_fails0 l D cy base w0 y r B  ) (cwV 1 hts gX6_account_X6_fails rfl rfl rfl (by decide +kernel) ⟨Nat.le_of_ble_eq_true rfl, Nat.le_of_ble_eq_true rfl⟩) (z_preV hA hS hH (m_recv hA hH)) rfl rfl hl.1 rfl (lv_room (Nat.le_of_ble_eq_true rfl)) dX6_account_33 ⟨Nat.le_of_ble_eq_true rfl, Nat.le_of_ble_eq_true rfl⟩) hS (fun r_k_6 u_k_6 H locs hw_k_6 hH hz_k_6 hS => ?_)
        rcases hw_k_6 with ⟨rfl, hu_k_6⟩
        rw [hu_k_6] at hH
        refine lv_if_eq (tgt := 43) hx hb dX6_account_36 (by decide) (fun _ => ?_) (fun c_7 => absurd c_7 (by decide))
        refine lv_aload_n hx hb dX6_account_43 rfl (lv_at hl 1 rfl) ?_
        refine m_arr (f := 14) (by unfold mArr; decide) hx hb hts hi6 hown hA hH (hts (.fieldLink RX6 47 "ParoleCardsModel" "account" "[I") (by decide +kernel)) rfl dX6_account_44 ?_
        refine lv_iconst (v := 4) hx hb dX6_account_47 (by decide) ?_
        refine lv_iload_n hx hb dX6_account_48 rfl (lv_at hl 2 rfl) ?_
        refine lv_imul hx hb dX6_account_49 ?_
        refine lv_iload_n hx hb dX6_account_50 rfl (lv_at hl 3 rfl) ?_
        refine lv_iadd hx hb dX6_account_51 ?_
        refine m_iald (f := 14) (v := (B 14 (4 * i + k))) (by unfold mArr; decide) rfl hx hb hA hH (4 * i + k) (by simp only [show (4 : Int32) = nI 4 from rfl, show (0 : Int32) = nI 0 from rfl, show (1 : Int32) = nI 1 from rfl, show (2 : Int32) = nI 2 from rfl, show (3 : Int32) = nI 3 from rfl, show (50 : Int32) = nI 50 from rfl, pk_mul, nI_add]) (by rw [show mLen 14 = 40 from rfl]; omega) rfl dX6_account_52 ?_
        exact z_iret hx hb hr hlocks hH hS (by
          have hc : (cd_account B (nI i) (nI k)) = 0 := by first | (simp [cd_account, h_k_3_0, hvP, hix, hvK, hkx]; done) | (simp_all [cd_account]; done)
          refine Or.inl ⟨hc, ?_, ?_⟩ <;> (simp [an_account, h_k_3_0, hvP, hix, hvK, hkx, z27_0, z27_1, z27_2, z27_3, z27_4, z27_5, z27_6, z27_7, z27_8, z27_9, z27_10, z27_11, z27_12, z27_13, z27_14, z27_15, z27_16, z27_17, z27_18, z27_19, z27_20, z27_21, z27_22, z27_23, z27_24, z27_25, z27_26, z27_oc, z27_ox, z27_kx, z27_nP, z27_nO]; done)) (by decide) (by decide) dX6_account_53
      · rw [hu_k_3] at hH
        exact absurd (hvK.symm.trans h_k_3_0) (by decide)
    · refine lv_aload_n hx hb dX6_account_0 rfl (lv_at hl 0 rfl) ?_
      refine lv_iload_n hx hb dX6_account_1 rfl (lv_at hl 1 rfl) ?_
      refine z_calli (va_runV (As := [.int (nI i)]) (rest := []) ⟨hx, hb, hml, hown, hts⟩ (c6_isPerson_t l D cy base w0 y r B i hvP) (cwV 1 hts gX6_account_X6_isPerson rfl rfl rfl (by decide +kernel) ⟨Nat.le_of_ble_eq_true rfl, Nat.le_of_ble_eq_true rfl⟩) (z_preV hA hS hH (m_recv hA hH)) rfl rfl hl.1 rfl (lv_room (Nat.le_of_ble_eq_true rfl)) dX6_account_2 ⟨Nat.le_of_ble_eq_true rfl, Nat.le_of_ble_eq_true rfl⟩) hS (fun r_k_8 u_k_8 H locs hw_k_8 hH hz_k_8 hS => ?_)
      rcases hw_k_8 with ⟨rfl, hu_k_8⟩
      rw [hu_k_8] at hH
      refine lv_if_eq (tgt := 21) hx hb dX6_account_5 (by decide) (fun c_9 => absurd c_9 (by decide)) (fun _ => ?_)
      refine lv_iload_n hx hb dX6_account_8 rfl (lv_at hl 2 rfl) ?_
      refine lv_iconst (v := 0) hx hb dX6_account_9 (by decide) ?_
      refine lv_iconst (v := 3) hx hb dX6_account_10 (by decide) ?_
      refine z_calli (va_runS (As := [.int a, .int 0, .int 3]) (rest := []) ⟨hx, hb, hml, hown, hts⟩ (c6_lies l D cy base w0 y r B a 0 3 ) (va_cwS 3 hts gX6_account_X6_lies rfl rfl rfl (by decide +kernel) ⟨Nat.le_of_ble_eq_true rfl, Nat.le_of_ble_eq_true rfl⟩) (z_preS hA hS hH) rfl rfl hl.1 rfl (lv_room (Nat.le_of_ble_eq_true rfl)) dX6_account_11 ⟨Nat.le_of_ble_eq_true rfl, Nat.le_of_ble_eq_true rfl⟩) hS (fun r_k_10 u_k_10 H locs hw_k_10 hH hz_k_10 hS => ?_)
      rcases hw_k_10 with ⟨h_k_10_0, rfl, hu_k_10⟩ | ⟨h_k_10_0, rfl, hu_k_10⟩
      · rw [hu_k_10] at hH
        exact absurd (hvK.symm.trans h_k_10_0) (by decide)
      · rw [hu_k_10] at hH
        refine lv_if_eq (tgt := 21) hx hb dX6_account_14 (by decide) (fun _ => ?_) (fun c_11 => absurd c_11 (by decide))
        refine lv_iconst (v := 0) hx hb dX6_account_21 (by decide) ?_
        refine lv_istore_n (lv' := [(3, .int 0), (0, .ref y), (1, .int (nI i)), (2, .int a)]) hx hb dX6_account_22 rfl hl (by decide) rfl (fun ls hl => ?_)
        refine lv_aload_n hx hb dX6_account_23 rfl (lv_at hl 1 rfl) ?_
        refine lv_iload_n hx hb dX6_account_24 rfl (lv_at hl 0 rfl) ?_
        refine lv_if_eq (tgt := 32) hx hb dX6_account_25 (by decide) (fun _ => ?_) (fun c_12 => absurd c_12 (by decide))
        refine lv_iconst (v := 1) hx hb dX6_account_32 (by decide) ?_
        refine z_calli (va_runV (As := [.int 1]) (rest := []) ⟨hx, hb, hml, hown, hts⟩ (c6_fails1 l D cy base w0 y r B  ) (cwV 1 hts gX6_account_X6_fails rfl rfl rfl (by decide +kernel) ⟨Nat.le_of_ble_eq_true rfl, Nat.le_of_ble_eq_true rfl⟩) (z_preV hA hS hH (m_recv hA hH)) rfl rfl hl.1 rfl (lv_room (Nat.le_of_ble_eq_true rfl)) dX6_account_33 ⟨Nat.le_of_ble_eq_true rfl, Nat.le_of_ble_eq_true rfl⟩) hS (fun r_k_13 u_k_13 H locs hw_k_13 hH hz_k_13 hS => ?_)
        rcases hw_k_13 with ⟨rfl, hu_k_13⟩
        rw [hu_k_13] at hH
        refine lv_if_eq (tgt := 43) hx hb dX6_account_36 (by decide) (fun c_14 => absurd c_14 (by decide)) (fun _ => ?_)
        refine lv_iconst (v := 0) hx hb dX6_account_39 (by decide) ?_
        refine lv_goto (tgt := 53) hx hb dX6_account_40 (by decide) ?_
        exact z_iret hx hb hr hlocks hH hS (by
          have hc : (cd_account B (nI i) a) = 1 := by first | (simp [cd_account, h_k_10_0, hvP, hix, hvK]; done) | (simp_all [cd_account]; done)
          exact Or.inr ⟨by rw [hc]; decide, by rw [hc]⟩) (by decide) (by decide) dX6_account_53
  · refine lv_aload_n hx hb dX6_account_0 rfl (lv_at hl 0 rfl) ?_
    refine lv_iload_n hx hb dX6_account_1 rfl (lv_at hl 1 rfl) ?_
    refine z_calli (va_runV (As := [.int its]) (rest := []) ⟨hx, hb, hml, hown, hts⟩ (c6_isPerson_f l D cy base w0 y r B its hvP) (cwV 1 hts gX6_account_X6_isPerson rfl rfl rfl (by decide +kernel) ⟨Nat.le_of_ble_eq_true rfl, Nat.le_of_ble_eq_true rfl⟩) (z_preV hA hS hH (m_recv hA hH)) rfl rfl hl.1 rfl (lv_room (Nat.le_of_ble_eq_true rfl)) dX6_account_2 ⟨Nat.le_of_ble_eq_true rfl, Nat.le_of_ble_eq_true rfl⟩) hS (fun r_k_15 u_k_15 H locs hw_k_15 hH hz_k_15 hS => ?_)
    rcases hw_k_15 with ⟨rfl, hu_k_15⟩
    rw [hu_k_15] at hH
    refine lv_if_eq (tgt := 21) hx hb dX6_account_5 (by decide) (fun _ => ?_) (fun c_16 => absurd c_16 (by decide))
    refine lv_iconst (v := 0) hx hb dX6_account_21 (by decide) ?_
    refine lv_istore_n (lv' := [(3, .int 0), (0, .ref y), (1, .int its), (2, .int a)]) hx hb dX6_account_22 rfl hl (by decide) rfl (fun ls hl => ?_)
    refine lv_aload_n hx hb dX6_account_23 rfl (lv_at hl 1 rfl) ?_
    refine lv_iload_n hx hb dX6_account_24 rfl (lv_at hl 0 rfl) ?_
    refine lv_if_eq (tgt := 32) hx hb dX6_account_25 (by decide) (fun _ => ?_) (fun c_17 => absurd c_17 (by decide))
    refine lv_iconst (v := 1) hx hb dX6_account_32 (by decide) ?_
    refine z_calli (va_runV (As := [.int 1]) (rest := []) ⟨hx, hb, hml, hown, hts⟩ (c6_fails1 l D cy base w0 y r B  ) (cwV 1 hts gX6_account_X6_fails rfl rfl rfl (by decide +kernel) ⟨Nat.le_of_ble_eq_true rfl, Nat.le_of_ble_eq_true rfl⟩) (z_preV hA hS hH (m_recv hA hH)) rfl rfl hl.1 rfl (lv_room (Nat.le_of_ble_eq_true rfl)) dX6_account_33 ⟨Nat.le_of_ble_eq_true rfl, Nat.le_of_ble_eq_true rfl⟩) hS (fun r_k_18 u_k_18 H locs hw_k_18 hH hz_k_18 hS => ?_)
    rcases hw_k_18 with ⟨rfl, hu_k_18⟩
    rw [hu_k_18] at hH
    refine lv_if_eq (tgt := 43) hx hb dX6_account_36 (by decide) (fun c_19 => absurd c_19 (by decide)) (fun _ => ?_)
    refine lv_iconst (v := 0) hx hb dX6_account_39 (by decide) ?_
    refine lv_goto (tgt := 53) hx hb dX6_account_40 (by decide) ?_
    exact z_iret hx hb hr hlocks hH hS (by
      have hc : (cd_account B its a) = 1 := by first | (simp [cd_account, hvP]; done) | (simp_all [cd_account]; done)
      exact Or.inr ⟨by rw [hc]; decide, by rw [hc]⟩) (by decide) (by decide) dX6_account_53
set_option maxHeartbeats 4000000 in
set_option maxRecDepth 100000 in
theorem c6_buy (l : Launch) (D : va_G) (cy : Nat → ClassId) (base : Nat) (w0 : zW) (y : Nat) (r : Nat → Nat) (B : Nat → Nat → Int32) (its : Int32) (a : Int32) (hinv : mInv B) : Met l yX6_buy wsX6_buy ({ frames := 2, cells := 0, slots := 0, locals := 43 }) (zPc D cy base (mH D cy base w0 y r) [.ref y, .int its, .int a] B) (zQi base (mH D cy base w0 y r) (fun (r0 : Int32) (u0 : Nat → Nat → Int32) => ((cd_buy B its a) = 0 ∧ r0 = (an_buy (z2 B 27 0 0) its a) ∧ u0 = (up_buy (z2 B 27 0 0) its a)) ∨ (¬ (cd_buy B its a) = 0 ∧ u0 = (z2 B 27 0 (cd_buy B its a))))) 0 0 (fun q => base ≤ q) := by
  refine Met.ofW (cc := cX6_buy) (maxL := 6) (ret := (some .int)) (by decide) rfl ?_
  intro p e s m args below meth c s₁ B9 hml hv
  obtain ⟨rfl, hA, hH⟩ := hv
  have hx := B9.exec
  have hb := B9.bytes
  have hr := B9.returns
  have hts := atoms_spec (ws := wsX6_buy) B9.pre
  have hown : s.vm.findClass RX6 = some m.cls := findClass_of_methodNamed B9.named
  have hlocks := B9.notSynchronized
  have hi6 : ∀ w ∈ wsX60, w ∈ wsX6_buy := by decide +kernel
  have hS : va_S (fun q : Nat => base ≤ q) s.heap s.heap [] := va_S.rf
  have hl := lv_entry ([.ref y, .int its, .int a]) (n := 6) (Nat.le_of_ble_eq_true rfl)
  rw [lg_entry_eq]
  generalize (lg_sl ([.ref y, .int its, .int a]) ++ List.replicate (6 - (lg_sl ([.ref y, .int its, .int a])).length) Slot.unset).toArray = ls at hl ⊢
  have hl : lv_has ls 6 [(0, .ref y), (1, .int its), (2, .int a)] := hl
  rcases vP_split hinv its with ⟨i, rfl, hi, hi10, hvP, hix⟩ | hvP
  · obtain ⟨h10, h50⟩ := mInv_oc50 hinv hi
    refine lv_aload_n hx hb dX6_buy_0 rfl (lv_at hl 0 rfl) ?_
    refine lv_iload_n hx hb dX6_buy_1 rfl (lv_at hl 1 rfl) ?_
    refine z_calli (va_runV (As := [.int (nI i)]) (rest := []) ⟨hx, hb, hml, hown, hts⟩ (c6_isPerson_t l D cy base w0 y r B i hvP) (cwV 1 hts gX6_buy_X6_isPerson rfl rfl rfl (by decide +kernel) ⟨Nat.le_of_ble_eq_true rfl, Nat.le_of_ble_eq_true rfl⟩) (z_preV hA hS hH (m_recv hA hH)) rfl rfl hl.1 rfl (lv_room (Nat.le_of_ble_eq_true rfl)) dX6_buy_2 ⟨Nat.le_of_ble_eq_true rfl, Nat.le_of_ble_eq_true rfl⟩) hS (fun r_k_1 u_k_1 H locs hw_k_1 hH hz_k_1 hS => ?_)
    rcases hw_k_1 with ⟨rfl, hu_k_1⟩
    rw [hu_k_1] at hH
    refine lv_istore_n (lv' := [(3, .int 1), (0, .ref y), (1, .int (nI i)), (2, .int a)]) hx hb dX6_buy_5 rfl hl (by decide) rfl (fun ls hl => ?_)
    refine lv_iload_n hx hb dX6_buy_6 rfl (lv_at hl 3 rfl) ?_
    refine lv_iconst (v := 1) hx hb dX6_buy_7 (by decide) ?_
    refine lv_sipush (v := 1000) hx hb dX6_buy_8 (by decide) ?_
    refine z_calli (va_runS (As := [.int a, .int 1, .int 1000]) (rest := []) ⟨hx, hb, hml, hown, hts⟩ (c6_lies l D cy base w0 y r B a 1 1000 ) (va_cwS 3 hts gX6_buy_X6_lies rfl rfl rfl (by decide +kernel) ⟨Nat.le_of_ble_eq_true rfl, Nat.le_of_ble_eq_true rfl⟩) (z_preS hA hS hH) rfl rfl hl.1 rfl (lv_room (Nat.le_of_ble_eq_true rfl)) dX6_buy_11 ⟨Nat.le_of_ble_eq_true rfl, Nat.le_of_ble_eq_true rfl⟩) hS (fun r_k_2 u_k_2 H locs hw_k_2 hH hz_k_2 hS => ?_)
    rcases hw_k_2 with ⟨h_k_2_0, rfl, hu_k_2⟩ | ⟨h_k_2_0, rfl, hu_k_2⟩
    · rw [hu_k_2] at hH
      refine lv_istore (lv' := [(4, .int 1), (3, .int 1), (0, .ref y), (1, .int (nI i)), (2, .int a)]) hx hb dX6_buy_14 hl (by decide) rfl (fun ls hl => ?_)
      refine lv_iload_n hx hb dX6_buy_16 rfl (lv_at hl 1 rfl) ?_
      refine lv_if_eq (tgt := 61) hx hb dX6_buy_17 (by decide) (fun c_3 => absurd c_3 (by decide)) (fun _ => ?_)
      refine lv_iload hx hb dX6_buy_20 (lv_at hl 0 rfl) ?_
      refine lv_if_eq (tgt := 61) hx hb dX6_buy_22 (by decide) (fun c_4 => absurd c_4 (by decide)) (fun _ => ?_)
      refine lv_aload_n hx hb dX6_buy_25 rfl (lv_at hl 2 rfl) ?_
      refine m_arr (f := 2) (by unfold mArr; decide) hx hb hts hi6 hown hA hH (hts (.fieldLink RX6 7 "ParoleCardsModel" "isOut" "[Z") (by decide +kernel)) rfl dX6_buy_26 ?_
      refine lv_iload_n hx hb dX6_buy_29 rfl (lv_at hl 3 rfl) ?_
      refine m_zald (f := 2) (v := (B 2 i)) (by unfold mArr; decide) rfl hx hb hA hH i rfl (by rw [show mLen 2 = 10 from rfl]; omega) rfl dX6_buy_30 ?_
      refine lv_if_ne (tgt := 61) hx hb dX6_buy_31 (by decide) (fun c_5 => ?_) (fun c_5 => ?_)
      · refine lv_iconst (v := 0) hx hb dX6_buy_61 (by decide) ?_
        refine lv_istore (lv' := [(5, .int 0), (4, .int 1), (3, .int 1), (0, .ref y), (1, .int (nI i)), (2, .int a)]) hx hb dX6_buy_62 hl (by decide) rfl (fun ls hl => ?_)
        refine lv_aload_n hx hb dX6_buy_64 rfl (lv_at hl 3 rfl) ?_
        refine lv_iload_n hx hb dX6_buy_65 rfl (lv_at hl 2 rfl) ?_
        refine lv_if_ne (tgt := 73) hx hb dX6_buy_66 (by decide) (fun _ => ?_) (fun c_6 => absurd c_6 (by decide))
        refine lv_iload hx hb dX6_buy_73 (lv_at hl 1 rfl) ?_
        refine lv_if_ne (tgt := 82) hx hb dX6_buy_75 (by decide) (fun _ => ?_) (fun c_7 => absurd c_7 (by decide))
        refine lv_iload hx hb dX6_buy_82 (lv_at hl 0 rfl) ?_
        refine lv_if_eq (tgt := 91) hx hb dX6_buy_84 (by decide) (fun _ => ?_) (fun c_8 => absurd c_8 (by decide))
        refine lv_iconst (v := 3) hx hb dX6_buy_91 (by decide) ?_
        refine z_calli (va_runV (As := [.int 3]) (rest := []) ⟨hx, hb, hml, hown, hts⟩ (c6_fails3 l D cy base w0 y r B  ) (cwV 1 hts gX6_buy_X6_fails rfl rfl rfl (by decide +kernel) ⟨Nat.le_of_ble_eq_true rfl, Nat.le_of_ble_eq_true rfl⟩) (z_preV hA hS hH (m_recv hA hH)) rfl rfl hl.1 rfl (lv_room (Nat.le_of_ble_eq_true rfl)) dX6_buy_92 ⟨Nat.le_of_ble_eq_true rfl, Nat.le_of_ble_eq_true rfl⟩) hS (fun r_k_9 u_k_9 H locs hw_k_9 hH hz_k_9 hS => ?_)
        rcases hw_k_9 with ⟨rfl, hu_k_9⟩
        rw [hu_k_9] at hH
        refine lv_if_eq (tgt := 100) hx hb dX6_buy_95 (by decide) (fun c_10 => absurd c_10 (by decide)) (fun _ => ?_)
        refine lv_iconst (v := 0) hx hb dX6_buy_98 (by decide) ?_
        exact z_iret hx hb hr hlocks hH hS (by
          have hc : (cd_buy B (nI i) a) = 3 := by first | (simp [cd_buy, h_k_2_0, c_5, hvP, hix]; done) | (simp_all [cd_buy]; done)
          exact Or.inr ⟨by rw [hc]; decide, by rw [hc]⟩) (by decide) (by decide) dX6_buy_99
      · refine lv_aload_n hx hb dX6_buy_34 rfl (lv_at hl 2 rfl) ?_
        refine m_arr (f := 14) (by unfold mArr; decide) hx hb hts hi6 hown hA hH (hts (.fieldLink RX6 47 "ParoleCardsModel" "account" "[I") (by decide +kernel)) rfl dX6_buy_35 ?_
        refine lv_iconst (v := 4) hx hb dX6_buy_38 (by decide) ?_
        refine lv_iload_n hx hb dX6_buy_39 rfl (lv_at hl 3 rfl) ?_
        refine lv_imul hx hb dX6_buy_40 ?_
        refine lv_iconst (v := 3) hx hb dX6_buy_41 (by decide) ?_
        refine lv_iadd hx hb dX6_buy_42 ?_
        refine m_iald (f := 14) (v := (B 14 (4 * i + 3))) (by unfold mArr; decide) rfl hx hb hA hH (4 * i + 3) (by simp only [show (4 : Int32) = nI 4 from rfl, show (0 : Int32) = nI 0 from rfl, show (1 : Int32) = nI 1 from rfl, show (2 : Int32) = nI 2 from rfl, show (3 : Int32) = nI 3 from rfl, show (50 : Int32) = nI 50 from rfl, pk_mul, nI_add]) (by rw [show mLen 14 = 40 from rfl]; omega) rfl dX6_buy_43 ?_
        refine lv_iload_n hx hb dX6_buy_44 rfl (lv_at hl 4 rfl) ?_
        refine lv_icmp_lt (tgt := 61) hx hb dX6_buy_45 (by decide) (fun c_11 => ?_) (fun c_11 => ?_)
        · refine lv_iconst (v := 0) hx hb dX6_buy_61 (by decide) ?_
          refine lv_istore (lv' := [(5, .int 0), (4, .int 1), (3, .int 1), (0, .ref y), (1, .int (nI i)), (2, .int a)]) hx hb dX6_buy_62 hl (by decide) rfl (fun ls hl => ?_)
          refine lv_aload_n hx hb dX6_buy_64 rfl (lv_at hl 3 rfl) ?_
          refine lv_iload_n hx hb dX6_buy_65 rfl (lv_at hl 2 rfl) ?_
          refine lv_if_ne (tgt := 73) hx hb dX6_buy_66 (by decide) (fun _ => ?_) (fun c_12 => absurd c_12 (by decide))
          refine lv_iload hx hb dX6_buy_73 (lv_at hl 1 rfl) ?_
          refine lv_if_ne (tgt := 82) hx hb dX6_buy_75 (by decide) (fun _ => ?_) (fun c_13 => absurd c_13 (by decide))
          refine lv_iload hx hb dX6_buy_82 (lv_at hl 0 rfl) ?_
          refine lv_if_eq (tgt := 91) hx hb dX6_buy_84 (by decide) (fun _ => ?_) (fun c_14 => absurd c_14 (by decide))
          refine lv_iconst (v := 3) hx hb dX6_buy_91 (by decide) ?_
          refine z_calli (va_runV (As := [.int 3]) (rest := []) ⟨hx, hb, hml, hown, hts⟩ (c6_fails3 l D cy base w0 y r B  ) (cwV 1 hts gX6_buy_X6_fails rfl rfl rfl (by decide +kernel) ⟨Nat.le_of_ble_eq_true rfl, Nat.le_of_ble_eq_true rfl⟩) (z_preV hA hS hH (m_recv hA hH)) rfl rfl hl.1 rfl (lv_room (Nat.le_of_ble_eq_true rfl)) dX6_buy_92 ⟨Nat.le_of_ble_eq_true rfl, Nat.le_of_ble_eq_true rfl⟩) hS (fun r_k_15 u_k_15 H locs hw_k_15 hH hz_k_15 hS => ?_)
          rcases hw_k_15 with ⟨rfl, hu_k_15⟩
          rw [hu_k_15] at hH
          refine lv_if_eq (tgt := 100) hx hb dX6_buy_95 (by decide) (fun c_16 => absurd c_16 (by decide)) (fun _ => ?_)
          refine lv_iconst (v := 0) hx hb dX6_buy_98 (by decide) ?_
          exact z_iret hx hb hr hlocks hH hS (by
            have hc : (cd_buy B (nI i) a) = 3 := by first | (simp [cd_buy, h_k_2_0, c_5, c_11, Int32.not_le.mpr c_11, hvP, hix]; done) | (simp_all [cd_buy]; done)
            exact Or.inr ⟨by rw [hc]; decide, by rw [hc]⟩) (by decide) (by decide) dX6_buy_99
        · refine lv_iload_n hx hb dX6_buy_48 rfl (lv_at hl 4 rfl) ?_
          refine lv_aload_n hx hb dX6_buy_49 rfl (lv_at hl 2 rfl) ?_
          refine lv_iload_n hx hb dX6_buy_50 rfl (lv_at hl 3 rfl) ?_
          refine z_calli (va_runV (As := [.int (nI i)]) (rest := [.int a]) ⟨hx, hb, hml, hown, hts⟩ (c6_rest l D cy base w0 y r B i (by omega) h10 h50) (cwV 1 hts gX6_buy_X6_rest rfl rfl rfl (by decide +kernel) ⟨Nat.le_of_ble_eq_true rfl, Nat.le_of_ble_eq_true rfl⟩) (z_preV hA hS hH (m_recv hA hH)) rfl rfl hl.1 rfl (lv_room (Nat.le_of_ble_eq_true rfl)) dX6_buy_51 ⟨Nat.le_of_ble_eq_true rfl, Nat.le_of_ble_eq_true rfl⟩) hS (fun r_k_17 u_k_17 H locs hw_k_17 hH hz_k_17 hS => ?_)
          rcases hw_k_17 with ⟨rfl, hu_k_17⟩
          rw [hu_k_17] at hH
          refine lv_icmp_gt (tgt := 61) hx hb dX6_buy_54 (by decide) (fun c_18 => ?_) (fun c_18 => ?_)
          · refine lv_iconst (v := 0) hx hb dX6_buy_61 (by decide) ?_
            refine lv_istore (lv' := [(5, .int 0), (4, .int 1), (3, .int 1), (0, .ref y), (1, .int (nI i)), (2, .int a)]) hx hb dX6_buy_62 hl (by decide) rfl (fun ls hl => ?_)
            refine lv_aload_n hx hb dX6_buy_64 rfl (lv_at hl 3 rfl) ?_
            refine lv_iload_n hx hb dX6_buy_65 rfl (lv_at hl 2 rfl) ?_
            refine lv_if_ne (tgt := 73) hx hb dX6_buy_66 (by decide) (fun _ => ?_) (fun c_19 => absurd c_19 (by decide))
            refine lv_iload hx hb dX6_buy_73 (lv_at hl 1 rfl) ?_
            refine lv_if_ne (tgt := 82) hx hb dX6_buy_75 (by decide) (fun _ => ?_) (fun c_20 => absurd c_20 (by decide))
            refine lv_iload hx hb dX6_buy_82 (lv_at hl 0 rfl) ?_
            refine lv_if_eq (tgt := 91) hx hb dX6_buy_84 (by decide) (fun _ => ?_) (fun c_21 => absurd c_21 (by decide))
            refine lv_iconst (v := 3) hx hb dX6_buy_91 (by decide) ?_
            refine z_calli (va_runV (As := [.int 3]) (rest := []) ⟨hx, hb, hml, hown, hts⟩ (c6_fails3 l D cy base w0 y r B  ) (cwV 1 hts gX6_buy_X6_fails rfl rfl rfl (by decide +kernel) ⟨Nat.le_of_ble_eq_true rfl, Nat.le_of_ble_eq_true rfl⟩) (z_preV hA hS hH (m_recv hA hH)) rfl rfl hl.1 rfl (lv_room (Nat.le_of_ble_eq_true rfl)) dX6_buy_92 ⟨Nat.le_of_ble_eq_true rfl, Nat.le_of_ble_eq_true rfl⟩) hS (fun r_k_22 u_k_22 H locs hw_k_22 hH hz_k_22 hS => ?_)
            rcases hw_k_22 with ⟨rfl, hu_k_22⟩
            rw [hu_k_22] at hH
            refine lv_if_eq (tgt := 100) hx hb dX6_buy_95 (by decide) (fun c_23 => absurd c_23 (by decide)) (fun _ => ?_)
            refine lv_iconst (v := 0) hx hb dX6_buy_98 (by decide) ?_
            exact z_iret hx hb hr hlocks hH hS (by
              have hc : (cd_buy B (nI i) a) = 3 := by first | (simp [cd_buy, h_k_2_0, c_5, c_11, Int32.not_lt.mp c_11, c_18, Int32.not_le.mpr c_18, hvP, hix]; done) | (simp_all [cd_buy]; done)
              exact Or.inr ⟨by rw [hc]; decide, by rw [hc]⟩) (by decide) (by decide) dX6_buy_99
          · refine lv_iconst (v := 1) hx hb dX6_buy_57 (by decide) ?_
            refine lv_goto (tgt := 62) hx hb dX6_buy_58 (by decide) ?_
            refine lv_istore (lv' := [(5, .int 1), (4, .int 1), (3, .int 1), (0, .ref y), (1, .int (nI i)), (2, .int a)]) hx hb dX6_buy_62 hl (by decide) rfl (fun ls hl => ?_)
            refine lv_aload_n hx hb dX6_buy_64 rfl (lv_at hl 3 rfl) ?_
            refine lv_iload_n hx hb dX6_buy_65 rfl (lv_at hl 2 rfl) ?_
            refine lv_if_ne (tgt := 73) hx hb dX6_buy_66 (by decide) (fun _ => ?_) (fun c_24 => absurd c_24 (by decide))
            refine lv_iload hx hb dX6_buy_73 (lv_at hl 1 rfl) ?_
            refine lv_if_ne (tgt := 82) hx hb dX6_buy_75 (by decide) (fun _ => ?_) (fun c_25 => absurd c_25 (by decide))
            refine lv_iload hx hb dX6_buy_82 (lv_at hl 0 rfl) ?_
            refine lv_if_eq (tgt := 91) hx hb dX6_buy_84 (by decide) (fun c_26 => absurd c_26 (by decide)) (fun _ => ?_)
            refine lv_iconst (v := 0) hx hb dX6_buy_87 (by decide) ?_
            refine lv_goto (tgt := 92) hx hb dX6_buy_88 (by decide) ?_
            refine z_calli (va_runV (As := [.int 0]) (rest := []) ⟨hx, hb, hml, hown, hts⟩ (c6_fails0 l D cy base w0 y r B  ) (cwV 1 hts gX6_buy_X6_fails rfl rfl rfl (by decide +kernel) ⟨Nat.le_of_ble_eq_true rfl, Nat.le_of_ble_eq_true rfl⟩) (z_preV hA hS hH (m_recv hA hH)) rfl rfl hl.1 rfl (lv_room (Nat.le_of_ble_eq_true rfl)) dX6_buy_92 ⟨Nat.le_of_ble_eq_true rfl, Nat.le_of_ble_eq_true rfl⟩) hS (fun r_k_27 u_k_27 H locs hw_k_27 hH hz_k_27 hS => ?_)
            rcases hw_k_27 with ⟨rfl, hu_k_27⟩
            rw [hu_k_27] at hH
            refine lv_if_eq (tgt := 100) hx hb dX6_buy_95 (by decide) (fun _ => ?_) (fun c_28 => absurd c_28 (by decide))
            refine lv_aload_n hx hb dX6_buy_100 rfl (lv_at hl 3 rfl) ?_
            refine m_arr (f := 16) (by unfold mArr; decide) hx hb hts hi6 hown hA hH (hts (.fieldLink RX6 53 "ParoleCardsModel" "bought" "[I") (by decide +kernel)) rfl dX6_buy_101 ?_
            refine lv_iload_n hx hb dX6_buy_104 rfl (lv_at hl 4 rfl) ?_
            refine lv_aload_n hx hb dX6_buy_105 rfl (lv_at hl 3 rfl) ?_
            refine m_arr (f := 15) (by unfold mArr; decide) hx hb hts hi6 hown hA hH (hts (.fieldLink RX6 50 "ParoleCardsModel" "span" "[I") (by decide +kernel)) rfl dX6_buy_106 ?_
            refine lv_iload_n hx hb dX6_buy_109 rfl (lv_at hl 4 rfl) ?_
            refine m_iald (f := 15) (v := (B 15 i)) (by unfold mArr; decide) rfl hx hb hA hH i rfl (by rw [show mLen 15 = 10 from rfl]; omega) rfl dX6_buy_110 ?_
            refine lv_aload_n hx hb dX6_buy_111 rfl (lv_at hl 3 rfl) ?_
            refine m_num (f := 0) (v := (B 0 0)) (by unfold mNum; decide) hx hb hts hi6 hown hA hH (hts (.fieldLink RX6 101 "ParoleCardsModel" "today" "I") (by decide +kernel)) rfl dX6_buy_112 ?_
            refine lv_bipush (v := 7) hx hb dX6_buy_115 (by decide) ?_
            refine lv_idiv hx hb dX6_buy_117 (by decide) ?_
            refine lv_icmp_ne (tgt := 130) hx hb dX6_buy_118 (by decide) (fun c_29 => ?_) (fun c_29 => ?_)
            · refine lv_iconst (v := 0) hx hb dX6_buy_130 (by decide) ?_
              refine lv_iload_n hx hb dX6_buy_131 rfl (lv_at hl 5 rfl) ?_
              refine lv_iadd hx hb dX6_buy_132 ?_
              refine m_iast (f := 16) (by unfold mArr; decide) rfl hx hb hA hH hS i rfl (by rw [show mLen 16 = 10 from rfl]; omega) dX6_buy_133 (fun H locs hH hS => ?_)
              refine lv_aload_n hx hb dX6_buy_134 rfl (lv_at hl 3 rfl) ?_
              refine m_arr (f := 15) (by unfold mArr; decide) hx hb hts hi6 hown hA hH (hts (.fieldLink RX6 50 "ParoleCardsModel" "span" "[I") (by decide +kernel)) rfl dX6_buy_135 ?_
              refine lv_iload_n hx hb dX6_buy_138 rfl (lv_at hl 4 rfl) ?_
              refine lv_aload_n hx hb dX6_buy_139 rfl (lv_at hl 3 rfl) ?_
              refine m_num (f := 0) (v := (B 0 0)) (by unfold mNum; decide) hx hb hts hi6 hown hA hH (hts (.fieldLink RX6 101 "ParoleCardsModel" "today" "I") (by decide +kernel)) rfl dX6_buy_140 ?_
              refine lv_bipush (v := 7) hx hb dX6_buy_143 (by decide) ?_
              refine lv_idiv hx hb dX6_buy_145 (by decide) ?_
              refine m_iast (f := 15) (by unfold mArr; decide) rfl hx hb hA hH hS i rfl (by rw [show mLen 15 = 10 from rfl]; omega) dX6_buy_146 (fun H locs hH hS => ?_)
              refine lv_aload_n hx hb dX6_buy_147 rfl (lv_at hl 3 rfl) ?_
              refine m_arr (f := 14) (by unfold mArr; decide) hx hb hts hi6 hown hA hH (hts (.fieldLink RX6 47 "ParoleCardsModel" "account" "[I") (by decide +kernel)) rfl dX6_buy_148 ?_
              refine lv_iconst (v := 4) hx hb dX6_buy_151 (by decide) ?_
              refine lv_iload_n hx hb dX6_buy_152 rfl (lv_at hl 4 rfl) ?_
              refine lv_imul hx hb dX6_buy_153 ?_
              refine lv_iconst (v := 3) hx hb dX6_buy_154 (by decide) ?_
              refine lv_iadd hx hb dX6_buy_155 ?_
              refine lv_dup2_11 hx hb dX6_buy_156 rfl rfl ?_
              refine m_iald (f := 14) (v := (B 14 (4 * i + 3))) (by unfold mArr; decide) rfl hx hb hA hH (4 * i + 3) (by simp only [show (4 : Int32) = nI 4 from rfl, show (0 : Int32) = nI 0 from rfl, show (1 : Int32) = nI 1 from rfl, show (2 : Int32) = nI 2 from rfl, show (3 : Int32) = nI 3 from rfl, show (50 : Int32) = nI 50 from rfl, pk_mul, nI_add]) (by rw [show mLen 14 = 40 from rfl]; omega) rfl dX6_buy_157 ?_
              refine lv_iload_n hx hb dX6_buy_158 rfl (lv_at hl 5 rfl) ?_
              refine lv_isub hx hb dX6_buy_159 ?_
              refine m_iast (f := 14) (by unfold mArr; decide) rfl hx hb hA hH hS (4 * i + 3) (by simp only [show (4 : Int32) = nI 4 from rfl, show (0 : Int32) = nI 0 from rfl, show (1 : Int32) = nI 1 from rfl, show (2 : Int32) = nI 2 from rfl, show (3 : Int32) = nI 3 from rfl, show (50 : Int32) = nI 50 from rfl, pk_mul, nI_add]) (by rw [show mLen 14 = 40 from rfl]; omega) dX6_buy_160 (fun H locs hH hS => ?_)
              refine lv_aload_n hx hb dX6_buy_161 rfl (lv_at hl 3 rfl) ?_
              refine m_arr (f := 14) (by unfold mArr; decide) hx hb hts hi6 hown hA hH (hts (.fieldLink RX6 47 "ParoleCardsModel" "account" "[I") (by decide +kernel)) rfl dX6_buy_162 ?_
              refine lv_iconst (v := 4) hx hb dX6_buy_165 (by decide) ?_
              refine lv_iload_n hx hb dX6_buy_166 rfl (lv_at hl 4 rfl) ?_
              refine lv_imul hx hb dX6_buy_167 ?_
              refine lv_iconst (v := 3) hx hb dX6_buy_168 (by decide) ?_
              refine lv_iadd hx hb dX6_buy_169 ?_
              refine m_iald (f := 14) (v := ((B 14 (4 * i + 3)) - a)) (by unfold mArr; decide) rfl hx hb hA hH (4 * i + 3) (by simp only [show (4 : Int32) = nI 4 from rfl, show (0 : Int32) = nI 0 from rfl, show (1 : Int32) = nI 1 from rfl, show (2 : Int32) = nI 2 from rfl, show (3 : Int32) = nI 3 from rfl, show (50 : Int32) = nI 50 from rfl, pk_mul, nI_add]) (by rw [show mLen 14 = 40 from rfl]; omega) (by simp [z2, va_up]) dX6_buy_170 ?_
              exact z_iret hx hb hr hlocks hH hS (by
                have hc : (cd_buy B (nI i) a) = 0 := by first | (simp [cd_buy, h_k_2_0, c_5, c_11, Int32.not_lt.mp c_11, c_18, Int32.not_lt.mp c_18, c_29, hvP, hix]; done) | (simp_all [cd_buy]; done)
                refine Or.inl ⟨hc, ?_, ?_⟩ <;> (simp [up_buy, an_buy, sBought, h_k_2_0, c_5, c_11, Int32.not_lt.mp c_11, c_18, Int32.not_lt.mp c_18, c_29, hvP, hix, z27_0, z27_1, z27_2, z27_3, z27_4, z27_5, z27_6, z27_7, z27_8, z27_9, z27_10, z27_11, z27_12, z27_13, z27_14, z27_15, z27_16, z27_17, z27_18, z27_19, z27_20, z27_21, z27_22, z27_23, z27_24, z27_25, z27_26, z27_oc, z27_ox, z27_kx, z27_nP, z27_nO]; done)) (by decide) (by decide) dX6_buy_171
            · refine lv_aload_n hx hb dX6_buy_121 rfl (lv_at hl 3 rfl) ?_
              refine m_arr (f := 16) (by unfold mArr; decide) hx hb hts hi6 hown hA hH (hts (.fieldLink RX6 53 "ParoleCardsModel" "bought" "[I") (by decide +kernel)) rfl dX6_buy_122 ?_
              refine lv_iload_n hx hb dX6_buy_125 rfl (lv_at hl 4 rfl) ?_
              refine m_iald (f := 16) (v := (B 16 i)) (by unfold mArr; decide) rfl hx hb hA hH i rfl (by rw [show mLen 16 = 10 from rfl]; omega) rfl dX6_buy_126 ?_
              refine lv_goto (tgt := 131) hx hb dX6_buy_127 (by decide) ?_
              refine lv_iload_n hx hb dX6_buy_131 rfl (lv_at hl 5 rfl) ?_
              refine lv_iadd hx hb dX6_buy_132 ?_
              refine m_iast (f := 16) (by unfold mArr; decide) rfl hx hb hA hH hS i rfl (by rw [show mLen 16 = 10 from rfl]; omega) dX6_buy_133 (fun H locs hH hS => ?_)
              refine lv_aload_n hx hb dX6_buy_134 rfl (lv_at hl 3 rfl) ?_
              refine m_arr (f := 15) (by unfold mArr; decide) hx hb hts hi6 hown hA hH (hts (.fieldLink RX6 50 "ParoleCardsModel" "span" "[I") (by decide +kernel)) rfl dX6_buy_135 ?_
              refine lv_iload_n hx hb dX6_buy_138 rfl (lv_at hl 4 rfl) ?_
              refine lv_aload_n hx hb dX6_buy_139 rfl (lv_at hl 3 rfl) ?_
              refine m_num (f := 0) (v := (B 0 0)) (by unfold mNum; decide) hx hb hts hi6 hown hA hH (hts (.fieldLink RX6 101 "ParoleCardsModel" "today" "I") (by decide +kernel)) rfl dX6_buy_140 ?_
              refine lv_bipush (v := 7) hx hb dX6_buy_143 (by decide) ?_
              refine lv_idiv hx hb dX6_buy_145 (by decide) ?_
              refine m_iast (f := 15) (by unfold mArr; decide) rfl hx hb hA hH hS i rfl (by rw [show mLen 15 = 10 from rfl]; omega) dX6_buy_146 (fun H locs hH hS => ?_)
              refine lv_aload_n hx hb dX6_buy_147 rfl (lv_at hl 3 rfl) ?_
              refine m_arr (f := 14) (by unfold mArr; decide) hx hb hts hi6 hown hA hH (hts (.fieldLink RX6 47 "ParoleCardsModel" "account" "[I") (by decide +kernel)) rfl dX6_buy_148 ?_
              refine lv_iconst (v := 4) hx hb dX6_buy_151 (by decide) ?_
              refine lv_iload_n hx hb dX6_buy_152 rfl (lv_at hl 4 rfl) ?_
              refine lv_imul hx hb dX6_buy_153 ?_
              refine lv_iconst (v := 3) hx hb dX6_buy_154 (by decide) ?_
              refine lv_iadd hx hb dX6_buy_155 ?_
              refine lv_dup2_11 hx hb dX6_buy_156 rfl rfl ?_
              refine m_iald (f := 14) (v := (B 14 (4 * i + 3))) (by unfold mArr; decide) rfl hx hb hA hH (4 * i + 3) (by simp only [show (4 : Int32) = nI 4 from rfl, show (0 : Int32) = nI 0 from rfl, show (1 : Int32) = nI 1 from rfl, show (2 : Int32) = nI 2 from rfl, show (3 : Int32) = nI 3 from rfl, show (50 : Int32) = nI 50 from rfl, pk_mul, nI_add]) (by rw [show mLen 14 = 40 from rfl]; omega) rfl dX6_buy_157 ?_
              refine lv_iload_n hx hb dX6_buy_158 rfl (lv_at hl 5 rfl) ?_
              refine lv_isub hx hb dX6_buy_159 ?_
              refine m_iast (f := 14) (by unfold mArr; decide) rfl hx hb hA hH hS (4 * i + 3) (by simp only [show (4 : Int32) = nI 4 from rfl, show (0 : Int32) = nI 0 from rfl, show (1 : Int32) = nI 1 from rfl, show (2 : Int32) = nI 2 from rfl, show (3 : Int32) = nI 3 from rfl, show (50 : Int32) = nI 50 from rfl, pk_mul, nI_add]) (by rw [show mLen 14 = 40 from rfl]; omega) dX6_buy_160 (fun H locs hH hS => ?_)
              refine lv_aload_n hx hb dX6_buy_161 rfl (lv_at hl 3 rfl) ?_
              refine m_arr (f := 14) (by unfold mArr; decide) hx hb hts hi6 hown hA hH (hts (.fieldLink RX6 47 "ParoleCardsModel" "account" "[I") (by decide +kernel)) rfl dX6_buy_162 ?_
              refine lv_iconst (v := 4) hx hb dX6_buy_165 (by decide) ?_
              refine lv_iload_n hx hb dX6_buy_166 rfl (lv_at hl 4 rfl) ?_
              refine lv_imul hx hb dX6_buy_167 ?_
              refine lv_iconst (v := 3) hx hb dX6_buy_168 (by decide) ?_
              refine lv_iadd hx hb dX6_buy_169 ?_
              refine m_iald (f := 14) (v := ((B 14 (4 * i + 3)) - a)) (by unfold mArr; decide) rfl hx hb hA hH (4 * i + 3) (by simp only [show (4 : Int32) = nI 4 from rfl, show (0 : Int32) = nI 0 from rfl, show (1 : Int32) = nI 1 from rfl, show (2 : Int32) = nI 2 from rfl, show (3 : Int32) = nI 3 from rfl, show (50 : Int32) = nI 50 from rfl, pk_mul, nI_add]) (by rw [show mLen 14 = 40 from rfl]; omega) (by simp [z2, va_up]) dX6_buy_170 ?_
              exact z_iret hx hb hr hlocks hH hS (by
                have hc : (cd_buy B (nI i) a) = 0 := by first | (simp [cd_buy, h_k_2_0, c_5, c_11, Int32.not_lt.mp c_11, c_18, Int32.not_lt.mp c_18, c_29, hvP, hix]; done) | (simp_all [cd_buy]; done)
                refine Or.inl ⟨hc, ?_, ?_⟩ <;> (simp [up_buy, an_buy, sBought, h_k_2_0, c_5, c_11, Int32.not_lt.mp c_11, c_18, Int32.not_lt.mp c_18, c_29, hvP, hix, z27_0, z27_1, z27_2, z27_3, z27_4, z27_5, z27_6, z27_7, z27_8, z27_9, z27_10, z27_11, z27_12, z27_13, z27_14, z27_15, z27_16, z27_17, z27_18, z27_19, z27_20, z27_21, z27_22, z27_23, z27_24, z27_25, z27_26, z27_oc, z27_ox, z27_kx, z27_nP, z27_nO]; done)) (by decide) (by decide) dX6_buy_171
    · rw [hu_k_2] at hH
      refine lv_istore (lv' := [(4, .int 0), (3, .int 1), (0, .ref y), (1, .int (nI i)), (2, .int a)]) hx hb dX6_buy_14 hl (by decide) rfl (fun ls hl => ?_)
      refine lv_iload_n hx hb dX6_buy_16 rfl (lv_at hl 1 rfl) ?_
      refine lv_if_eq (tgt := 61) hx hb dX6_buy_17 (by decide) (fun c_30 => absurd c_30 (by decide)) (fun _ => ?_)
      refine lv_iload hx hb dX6_buy_20 (lv_at hl 0 rfl) ?_
      refine lv_if_eq (tgt := 61) hx hb dX6_buy_22 (by decide) (fun _ => ?_) (fun c_31 => absurd c_31 (by decide))
      refine lv_iconst (v := 0) hx hb dX6_buy_61 (by decide) ?_
      refine lv_istore (lv' := [(5, .int 0), (4, .int 0), (3, .int 1), (0, .ref y), (1, .int (nI i)), (2, .int a)]) hx hb dX6_buy_62 hl (by decide) rfl (fun ls hl => ?_)
      refine lv_aload_n hx hb dX6_buy_64 rfl (lv_at hl 3 rfl) ?_
      refine lv_iload_n hx hb dX6_buy_65 rfl (lv_at hl 2 rfl) ?_
      refine lv_if_ne (tgt := 73) hx hb dX6_buy_66 (by decide) (fun _ => ?_) (fun c_32 => absurd c_32 (by decide))
      refine lv_iload hx hb dX6_buy_73 (lv_at hl 1 rfl) ?_
      refine lv_if_ne (tgt := 82) hx hb dX6_buy_75 (by decide) (fun c_33 => absurd c_33 (by decide)) (fun _ => ?_)
      refine lv_iconst (v := 2) hx hb dX6_buy_78 (by decide) ?_
      refine lv_goto (tgt := 92) hx hb dX6_buy_79 (by decide) ?_
      refine z_calli (va_runV (As := [.int 2]) (rest := []) ⟨hx, hb, hml, hown, hts⟩ (c6_fails2 l D cy base w0 y r B  ) (cwV 1 hts gX6_buy_X6_fails rfl rfl rfl (by decide +kernel) ⟨Nat.le_of_ble_eq_true rfl, Nat.le_of_ble_eq_true rfl⟩) (z_preV hA hS hH (m_recv hA hH)) rfl rfl hl.1 rfl (lv_room (Nat.le_of_ble_eq_true rfl)) dX6_buy_92 ⟨Nat.le_of_ble_eq_true rfl, Nat.le_of_ble_eq_true rfl⟩) hS (fun r_k_34 u_k_34 H locs hw_k_34 hH hz_k_34 hS => ?_)
      rcases hw_k_34 with ⟨rfl, hu_k_34⟩
      rw [hu_k_34] at hH
      refine lv_if_eq (tgt := 100) hx hb dX6_buy_95 (by decide) (fun c_35 => absurd c_35 (by decide)) (fun _ => ?_)
      refine lv_iconst (v := 0) hx hb dX6_buy_98 (by decide) ?_
      exact z_iret hx hb hr hlocks hH hS (by
        have hc : (cd_buy B (nI i) a) = 2 := by first | (simp [cd_buy, h_k_2_0, hvP, hix]; done) | (simp_all [cd_buy]; done)
        exact Or.inr ⟨by rw [hc]; decide, by rw [hc]⟩) (by decide) (by decide) dX6_buy_99
  · refine lv_aload_n hx hb dX6_buy_0 rfl (lv_at hl 0 rfl) ?_
    refine lv_iload_n hx hb dX6_buy_1 rfl (lv_at hl 1 rfl) ?_
    refine z_calli (va_runV (As := [.int its]) (rest := []) ⟨hx, hb, hml, hown, hts⟩ (c6_isPerson_f l D cy base w0 y r B its hvP) (cwV 1 hts gX6_buy_X6_isPerson rfl rfl rfl (by decide +kernel) ⟨Nat.le_of_ble_eq_true rfl, Nat.le_of_ble_eq_true rfl⟩) (z_preV hA hS hH (m_recv hA hH)) rfl rfl hl.1 rfl (lv_room (Nat.le_of_ble_eq_true rfl)) dX6_buy_2 ⟨Nat.le_of_ble_eq_true rfl, Nat.le_of_ble_eq_true rfl⟩) hS (fun r_k_36 u_k_36 H locs hw_k_36 hH hz_k_36 hS => ?_)
    rcases hw_k_36 with ⟨rfl, hu_k_36⟩
    rw [hu_k_36] at hH
    refine lv_istore_n (lv' := [(3, .int 0), (0, .ref y), (1, .int its), (2, .int a)]) hx hb dX6_buy_5 rfl hl (by decide) rfl (fun ls hl => ?_)
    refine lv_iload_n hx hb dX6_buy_6 rfl (lv_at hl 3 rfl) ?_
    refine lv_iconst (v := 1) hx hb dX6_buy_7 (by decide) ?_
    refine lv_sipush (v := 1000) hx hb dX6_buy_8 (by decide) ?_
    refine z_calli (va_runS (As := [.int a, .int 1, .int 1000]) (rest := []) ⟨hx, hb, hml, hown, hts⟩ (c6_lies l D cy base w0 y r B a 1 1000 ) (va_cwS 3 hts gX6_buy_X6_lies rfl rfl rfl (by decide +kernel) ⟨Nat.le_of_ble_eq_true rfl, Nat.le_of_ble_eq_true rfl⟩) (z_preS hA hS hH) rfl rfl hl.1 rfl (lv_room (Nat.le_of_ble_eq_true rfl)) dX6_buy_11 ⟨Nat.le_of_ble_eq_true rfl, Nat.le_of_ble_eq_true rfl⟩) hS (fun r_k_37 u_k_37 H locs hw_k_37 hH hz_k_37 hS => ?_)
    rcases hw_k_37 with ⟨h_k_37_0, rfl, hu_k_37⟩ | ⟨h_k_37_0, rfl, hu_k_37⟩
    · rw [hu_k_37] at hH
      refine lv_istore (lv' := [(4, .int 1), (3, .int 0), (0, .ref y), (1, .int its), (2, .int a)]) hx hb dX6_buy_14 hl (by decide) rfl (fun ls hl => ?_)
      refine lv_iload_n hx hb dX6_buy_16 rfl (lv_at hl 1 rfl) ?_
      refine lv_if_eq (tgt := 61) hx hb dX6_buy_17 (by decide) (fun _ => ?_) (fun c_38 => absurd c_38 (by decide))
      refine lv_iconst (v := 0) hx hb dX6_buy_61 (by decide) ?_
      refine lv_istore (lv' := [(5, .int 0), (4, .int 1), (3, .int 0), (0, .ref y), (1, .int its), (2, .int a)]) hx hb dX6_buy_62 hl (by decide) rfl (fun ls hl => ?_)
      refine lv_aload_n hx hb dX6_buy_64 rfl (lv_at hl 3 rfl) ?_
      refine lv_iload_n hx hb dX6_buy_65 rfl (lv_at hl 2 rfl) ?_
      refine lv_if_ne (tgt := 73) hx hb dX6_buy_66 (by decide) (fun c_39 => absurd c_39 (by decide)) (fun _ => ?_)
      refine lv_iconst (v := 1) hx hb dX6_buy_69 (by decide) ?_
      refine lv_goto (tgt := 92) hx hb dX6_buy_70 (by decide) ?_
      refine z_calli (va_runV (As := [.int 1]) (rest := []) ⟨hx, hb, hml, hown, hts⟩ (c6_fails1 l D cy base w0 y r B  ) (cwV 1 hts gX6_buy_X6_fails rfl rfl rfl (by decide +kernel) ⟨Nat.le_of_ble_eq_true rfl, Nat.le_of_ble_eq_true rfl⟩) (z_preV hA hS hH (m_recv hA hH)) rfl rfl hl.1 rfl (lv_room (Nat.le_of_ble_eq_true rfl)) dX6_buy_92 ⟨Nat.le_of_ble_eq_true rfl, Nat.le_of_ble_eq_true rfl⟩) hS (fun r_k_40 u_k_40 H locs hw_k_40 hH hz_k_40 hS => ?_)
      rcases hw_k_40 with ⟨rfl, hu_k_40⟩
      rw [hu_k_40] at hH
      refine lv_if_eq (tgt := 100) hx hb dX6_buy_95 (by decide) (fun c_41 => absurd c_41 (by decide)) (fun _ => ?_)
      refine lv_iconst (v := 0) hx hb dX6_buy_98 (by decide) ?_
      exact z_iret hx hb hr hlocks hH hS (by
        have hc : (cd_buy B its a) = 1 := by first | (simp [cd_buy, h_k_37_0, hvP]; done) | (simp_all [cd_buy]; done)
        exact Or.inr ⟨by rw [hc]; decide, by rw [hc]⟩) (by decide) (by decide) dX6_buy_99
    · rw [hu_k_37] at hH
      refine lv_istore (lv' := [(4, .int 0), (3, .int 0), (0, .ref y), (1, .int its), (2, .int a)]) hx hb dX6_buy_14 hl (by decide) rfl (fun ls hl => ?_)
      refine lv_iload_n hx hb dX6_buy_16 rfl (lv_at hl 1 rfl) ?_
      refine lv_if_eq (tgt := 61) hx hb dX6_buy_17 (by decide) (fun _ => ?_) (fun c_42 => absurd c_42 (by decide))
      refine lv_iconst (v := 0) hx hb dX6_buy_61 (by decide) ?_
      refine lv_istore (lv' := [(5, .int 0), (4, .int 0), (3, .int 0), (0, .ref y), (1, .int its), (2, .int a)]) hx hb dX6_buy_62 hl (by decide) rfl (fun ls hl => ?_)
      refine lv_aload_n hx hb dX6_buy_64 rfl (lv_at hl 3 rfl) ?_
      refine lv_iload_n hx hb dX6_buy_65 rfl (lv_at hl 2 rfl) ?_
      refine lv_if_ne (tgt := 73) hx hb dX6_buy_66 (by decide) (fun c_43 => absurd c_43 (by decide)) (fun _ => ?_)
      refine lv_iconst (v := 1) hx hb dX6_buy_69 (by decide) ?_
      refine lv_goto (tgt := 92) hx hb dX6_buy_70 (by decide) ?_
      refine z_calli (va_runV (As := [.int 1]) (rest := []) ⟨hx, hb, hml, hown, hts⟩ (c6_fails1 l D cy base w0 y r B  ) (cwV 1 hts gX6_buy_X6_fails rfl rfl rfl (by decide +kernel) ⟨Nat.le_of_ble_eq_true rfl, Nat.le_of_ble_eq_true rfl⟩) (z_preV hA hS hH (m_recv hA hH)) rfl rfl hl.1 rfl (lv_room (Nat.le_of_ble_eq_true rfl)) dX6_buy_92 ⟨Nat.le_of_ble_eq_true rfl, Nat.le_of_ble_eq_true rfl⟩) hS (fun r_k_44 u_k_44 H locs hw_k_44 hH hz_k_44 hS => ?_)
      rcases hw_k_44 with ⟨rfl, hu_k_44⟩
      rw [hu_k_44] at hH
      refine lv_if_eq (tgt := 100) hx hb dX6_buy_95 (by decide) (fun c_45 => absurd c_45 (by decide)) (fun _ => ?_)
      refine lv_iconst (v := 0) hx hb dX6_buy_98 (by decide) ?_
      exact z_iret hx hb hr hlocks hH hS (by
        have hc : (cd_buy B its a) = 1 := by first | (simp [cd_buy, h_k_37_0, hvP]; done) | (simp_all [cd_buy]; done)
        exact Or.inr ⟨by rw [hc]; decide, by rw [hc]⟩) (by decide) (by decide) dX6_buy_99
set_option maxHeartbeats 4000000 in
set_option maxRecDepth 100000 in
theorem c6_limit (l : Launch) (D : va_G) (cy : Nat → ClassId) (base : Nat) (w0 : zW) (y : Nat) (r : Nat → Nat) (B : Nat → Nat → Int32) (its : Int32) (hinv : mInv B) : Met l yX6_limit wsX6_limit ({ frames := 2, cells := 0, slots := 0, locals := 43 }) (zPc D cy base (mH D cy base w0 y r) [.ref y, .int its] B) (zQi base (mH D cy base w0 y r) (fun (r0 : Int32) (u0 : Nat → Nat → Int32) => ((cd_P B its) = 0 ∧ r0 = (an_limit (z2 B 27 0 0) its) ∧ u0 = ((z2 B 27 0 0))) ∨ (¬ (cd_P B its) = 0 ∧ u0 = (z2 B 27 0 (cd_P B its))))) 0 0 (fun q => base ≤ q) := by
  refine Met.ofW (cc := cX6_limit) (maxL := 2) (ret := (some .int)) (by decide) rfl ?_
  intro p e s m args below meth c s₁ B9 hml hv
  obtain ⟨rfl, hA, hH⟩ := hv
  have hx := B9.exec
  have hb := B9.bytes
  have hr := B9.returns
  have hts := atoms_spec (ws := wsX6_limit) B9.pre
  have hown : s.vm.findClass RX6 = some m.cls := findClass_of_methodNamed B9.named
  have hlocks := B9.notSynchronized
  have hS : va_S (fun q : Nat => base ≤ q) s.heap s.heap [] := va_S.rf
  have hl := lv_entry ([.ref y, .int its]) (n := 2) (Nat.le_of_ble_eq_true rfl)
  rw [lg_entry_eq]
  generalize (lg_sl ([.ref y, .int its]) ++ List.replicate (2 - (lg_sl ([.ref y, .int its])).length) Slot.unset).toArray = ls at hl ⊢
  have hl : lv_has ls 2 [(0, .ref y), (1, .int its)] := hl
  rcases vP_split hinv its with ⟨i, rfl, hi, hi10, hvP, hix⟩ | hvP
  · obtain ⟨h10, h50⟩ := mInv_oc50 hinv hi
    refine lv_aload_n hx hb dX6_limit_0 rfl (lv_at hl 0 rfl) ?_
    refine lv_aload_n hx hb dX6_limit_1 rfl (lv_at hl 0 rfl) ?_
    refine lv_iload_n hx hb dX6_limit_2 rfl (lv_at hl 1 rfl) ?_
    refine z_calli (va_runV (As := [.int (nI i)]) (rest := [.ref y]) ⟨hx, hb, hml, hown, hts⟩ (c6_isPerson_t l D cy base w0 y r B i hvP) (cwV 1 hts gX6_limit_X6_isPerson rfl rfl rfl (by decide +kernel) ⟨Nat.le_of_ble_eq_true rfl, Nat.le_of_ble_eq_true rfl⟩) (z_preV hA hS hH (m_recv hA hH)) rfl rfl hl.1 rfl (lv_room (Nat.le_of_ble_eq_true rfl)) dX6_limit_3 ⟨Nat.le_of_ble_eq_true rfl, Nat.le_of_ble_eq_true rfl⟩) hS (fun r_k_1 u_k_1 H locs hw_k_1 hH hz_k_1 hS => ?_)
    rcases hw_k_1 with ⟨rfl, hu_k_1⟩
    rw [hu_k_1] at hH
    refine lv_if_eq (tgt := 13) hx hb dX6_limit_6 (by decide) (fun c_2 => absurd c_2 (by decide)) (fun _ => ?_)
    refine lv_iconst (v := 0) hx hb dX6_limit_9 (by decide) ?_
    refine lv_goto (tgt := 14) hx hb dX6_limit_10 (by decide) ?_
    refine z_calli (va_runV (As := [.int 0]) (rest := []) ⟨hx, hb, hml, hown, hts⟩ (c6_fails0 l D cy base w0 y r B  ) (cwV 1 hts gX6_limit_X6_fails rfl rfl rfl (by decide +kernel) ⟨Nat.le_of_ble_eq_true rfl, Nat.le_of_ble_eq_true rfl⟩) (z_preV hA hS hH (m_recv hA hH)) rfl rfl hl.1 rfl (lv_room (Nat.le_of_ble_eq_true rfl)) dX6_limit_14 ⟨Nat.le_of_ble_eq_true rfl, Nat.le_of_ble_eq_true rfl⟩) hS (fun r_k_3 u_k_3 H locs hw_k_3 hH hz_k_3 hS => ?_)
    rcases hw_k_3 with ⟨rfl, hu_k_3⟩
    rw [hu_k_3] at hH
    refine lv_if_eq (tgt := 24) hx hb dX6_limit_17 (by decide) (fun _ => ?_) (fun c_4 => absurd c_4 (by decide))
    refine lv_aload_n hx hb dX6_limit_24 rfl (lv_at hl 0 rfl) ?_
    refine lv_iload_n hx hb dX6_limit_25 rfl (lv_at hl 1 rfl) ?_
    refine z_calli (va_runV (As := [.int (nI i)]) (rest := []) ⟨hx, hb, hml, hown, hts⟩ (c6_rest l D cy base w0 y r (z2 B 27 0 0) i (by omega) h10 h50) (cwV 1 hts gX6_limit_X6_rest rfl rfl rfl (by decide +kernel) ⟨Nat.le_of_ble_eq_true rfl, Nat.le_of_ble_eq_true rfl⟩) (z_preV hA hS hH (m_recv hA hH)) rfl rfl hl.1 rfl (lv_room (Nat.le_of_ble_eq_true rfl)) dX6_limit_26 ⟨Nat.le_of_ble_eq_true rfl, Nat.le_of_ble_eq_true rfl⟩) hS (fun r_k_5 u_k_5 H locs hw_k_5 hH hz_k_5 hS => ?_)
    rcases hw_k_5 with ⟨rfl, hu_k_5⟩
    rw [hu_k_5] at hH
    exact z_iret hx hb hr hlocks hH hS (by
      have hc : (cd_P B (nI i)) = 0 := by first | (simp [cd_P, hvP, hix]; done) | (simp_all [cd_P]; done)
      refine Or.inl ⟨hc, ?_, ?_⟩ <;> (simp [an_limit, hvP, hix, z27_0, z27_1, z27_2, z27_3, z27_4, z27_5, z27_6, z27_7, z27_8, z27_9, z27_10, z27_11, z27_12, z27_13, z27_14, z27_15, z27_16, z27_17, z27_18, z27_19, z27_20, z27_21, z27_22, z27_23, z27_24, z27_25, z27_26, z27_oc, z27_ox, z27_kx, z27_nP, z27_nO]; done)) (by decide) (by decide) dX6_limit_29
  · refine lv_aload_n hx hb dX6_limit_0 rfl (lv_at hl 0 rfl) ?_
    refine lv_aload_n hx hb dX6_limit_1 rfl (lv_at hl 0 rfl) ?_
    refine lv_iload_n hx hb dX6_limit_2 rfl (lv_at hl 1 rfl) ?_
    refine z_calli (va_runV (As := [.int its]) (rest := [.ref y]) ⟨hx, hb, hml, hown, hts⟩ (c6_isPerson_f l D cy base w0 y r B its hvP) (cwV 1 hts gX6_limit_X6_isPerson rfl rfl rfl (by decide +kernel) ⟨Nat.le_of_ble_eq_true rfl, Nat.le_of_ble_eq_true rfl⟩) (z_preV hA hS hH (m_recv hA hH)) rfl rfl hl.1 rfl (lv_room (Nat.le_of_ble_eq_true rfl)) dX6_limit_3 ⟨Nat.le_of_ble_eq_true rfl, Nat.le_of_ble_eq_true rfl⟩) hS (fun r_k_6 u_k_6 H locs hw_k_6 hH hz_k_6 hS => ?_)
    rcases hw_k_6 with ⟨rfl, hu_k_6⟩
    rw [hu_k_6] at hH
    refine lv_if_eq (tgt := 13) hx hb dX6_limit_6 (by decide) (fun _ => ?_) (fun c_7 => absurd c_7 (by decide))
    refine lv_iconst (v := 1) hx hb dX6_limit_13 (by decide) ?_
    refine z_calli (va_runV (As := [.int 1]) (rest := []) ⟨hx, hb, hml, hown, hts⟩ (c6_fails1 l D cy base w0 y r B  ) (cwV 1 hts gX6_limit_X6_fails rfl rfl rfl (by decide +kernel) ⟨Nat.le_of_ble_eq_true rfl, Nat.le_of_ble_eq_true rfl⟩) (z_preV hA hS hH (m_recv hA hH)) rfl rfl hl.1 rfl (lv_room (Nat.le_of_ble_eq_true rfl)) dX6_limit_14 ⟨Nat.le_of_ble_eq_true rfl, Nat.le_of_ble_eq_true rfl⟩) hS (fun r_k_8 u_k_8 H locs hw_k_8 hH hz_k_8 hS => ?_)
    rcases hw_k_8 with ⟨rfl, hu_k_8⟩
    rw [hu_k_8] at hH
    refine lv_if_eq (tgt := 24) hx hb dX6_limit_17 (by decide) (fun c_9 => absurd c_9 (by decide)) (fun _ => ?_)
    refine lv_iconst (v := 0) hx hb dX6_limit_20 (by decide) ?_
    refine lv_goto (tgt := 29) hx hb dX6_limit_21 (by decide) ?_
    exact z_iret hx hb hr hlocks hH hS (by
      have hc : (cd_P B its) = 1 := by first | (simp [cd_P, hvP]; done) | (simp_all [cd_P]; done)
      exact Or.inr ⟨by rw [hc]; decide, by rw [hc]⟩) (by decide) (by decide) dX6_limit_29
set_option maxHeartbeats 4000000 in
set_option maxRecDepth 100000 in
theorem c6_assign (l : Launch) (D : va_G) (cy : Nat → ClassId) (base : Nat) (w0 : zW) (y : Nat) (r : Nat → Nat) (B : Nat → Nat → Int32) (its : Int32) (o : Int32) (hinv : mInv B) : Met l yX6_assign wsX6_assign ({ frames := 2, cells := 0, slots := 0, locals := 43 }) (zPc D cy base (mH D cy base w0 y r) [.ref y, .int its, .int o] B) (zQi base (mH D cy base w0 y r) (fun (r0 : Int32) (u0 : Nat → Nat → Int32) => ((cd_assign B its o) = 0 ∧ r0 = (an_assign (z2 B 27 0 0) its o) ∧ u0 = (up_assign (z2 B 27 0 0) its o)) ∨ (¬ (cd_assign B its o) = 0 ∧ u0 = (z2 B 27 0 (cd_assign B its o))))) 0 0 (fun q => base ≤ q) := by
  refine Met.ofW (cc := cX6_assign) (maxL := 7) (ret := (some .int)) (by decide) rfl ?_
  intro p e s m args below meth c s₁ B9 hml hv
  obtain ⟨rfl, hA, hH⟩ := hv
  have hx := B9.exec
  have hb := B9.bytes
  have hr := B9.returns
  have hts := atoms_spec (ws := wsX6_assign) B9.pre
  have hown : s.vm.findClass RX6 = some m.cls := findClass_of_methodNamed B9.named
  have hlocks := B9.notSynchronized
  have hi6 : ∀ w ∈ wsX60, w ∈ wsX6_assign := by decide +kernel
  have hS : va_S (fun q : Nat => base ≤ q) s.heap s.heap [] := va_S.rf
  have hl := lv_entry ([.ref y, .int its, .int o]) (n := 7) (Nat.le_of_ble_eq_true rfl)
  rw [lg_entry_eq]
  generalize (lg_sl ([.ref y, .int its, .int o]) ++ List.replicate (7 - (lg_sl ([.ref y, .int its, .int o])).length) Slot.unset).toArray = ls at hl ⊢
  have hl : lv_has ls 7 [(0, .ref y), (1, .int its), (2, .int o)] := hl
  rcases vP_split hinv its with ⟨i, rfl, hi, hi10, hvP, hix⟩ | hvP
  · obtain ⟨h10, h50⟩ := mInv_oc50 hinv hi
    rcases vO_split hinv o with ⟨j, rfl, hj, hj8, hvO, hjx⟩ | hvO
    · refine lv_aload_n hx hb dX6_assign_0 rfl (lv_at hl 0 rfl) ?_
      refine lv_iload_n hx hb dX6_assign_1 rfl (lv_at hl 1 rfl) ?_
      refine z_calli (va_runV (As := [.int (nI i)]) (rest := []) ⟨hx, hb, hml, hown, hts⟩ (c6_isPerson_t l D cy base w0 y r B i hvP) (cwV 1 hts gX6_assign_X6_isPerson rfl rfl rfl (by decide +kernel) ⟨Nat.le_of_ble_eq_true rfl, Nat.le_of_ble_eq_true rfl⟩) (z_preV hA hS hH (m_recv hA hH)) rfl rfl hl.1 rfl (lv_room (Nat.le_of_ble_eq_true rfl)) dX6_assign_2 ⟨Nat.le_of_ble_eq_true rfl, Nat.le_of_ble_eq_true rfl⟩) hS (fun r_k_1 u_k_1 H locs hw_k_1 hH hz_k_1 hS => ?_)
      rcases hw_k_1 with ⟨rfl, hu_k_1⟩
      rw [hu_k_1] at hH
      refine lv_if_eq (tgt := 20) hx hb dX6_assign_5 (by decide) (fun c_2 => absurd c_2 (by decide)) (fun _ => ?_)
      refine lv_aload_n hx hb dX6_assign_8 rfl (lv_at hl 0 rfl) ?_
      refine lv_iload_n hx hb dX6_assign_9 rfl (lv_at hl 2 rfl) ?_
      refine z_calli (va_runV (As := [.int (nI j)]) (rest := []) ⟨hx, hb, hml, hown, hts⟩ (c6_isOrder_t l D cy base w0 y r B j hvO) (cwV 1 hts gX6_assign_X6_isOrder rfl rfl rfl (by decide +kernel) ⟨Nat.le_of_ble_eq_true rfl, Nat.le_of_ble_eq_true rfl⟩) (z_preV hA hS hH (m_recv hA hH)) rfl rfl hl.1 rfl (lv_room (Nat.le_of_ble_eq_true rfl)) dX6_assign_10 ⟨Nat.le_of_ble_eq_true rfl, Nat.le_of_ble_eq_true rfl⟩) hS (fun r_k_3 u_k_3 H locs hw_k_3 hH hz_k_3 hS => ?_)
      rcases hw_k_3 with ⟨rfl, hu_k_3⟩
      rw [hu_k_3] at hH
      refine lv_if_eq (tgt := 20) hx hb dX6_assign_13 (by decide) (fun c_4 => absurd c_4 (by decide)) (fun _ => ?_)
      refine lv_iconst (v := 1) hx hb dX6_assign_16 (by decide) ?_
      refine lv_goto (tgt := 21) hx hb dX6_assign_17 (by decide) ?_
      refine lv_istore_n (lv' := [(3, .int 1), (0, .ref y), (1, .int (nI i)), (2, .int (nI j))]) hx hb dX6_assign_21 rfl hl (by decide) rfl (fun ls hl => ?_)
      refine lv_iload_n hx hb dX6_assign_22 rfl (lv_at hl 0 rfl) ?_
      refine lv_if_eq (tgt := 101) hx hb dX6_assign_23 (by decide) (fun c_5 => absurd c_5 (by decide)) (fun _ => ?_)
      refine lv_aload_n hx hb dX6_assign_26 rfl (lv_at hl 1 rfl) ?_
      refine m_arr (f := 2) (by unfold mArr; decide) hx hb hts hi6 hown hA hH (hts (.fieldLink RX6 7 "ParoleCardsModel" "isOut" "[Z") (by decide +kernel)) rfl dX6_assign_27 ?_
      refine lv_iload_n hx hb dX6_assign_30 rfl (lv_at hl 2 rfl) ?_
      refine m_zald (f := 2) (v := (B 2 i)) (by unfold mArr; decide) rfl hx hb hA hH i rfl (by rw [show mLen 2 = 10 from rfl]; omega) rfl dX6_assign_31 ?_
      refine lv_if_ne (tgt := 101) hx hb dX6_assign_32 (by decide) (fun c_6 => ?_) (fun c_6 => ?_)
      · refine lv_iconst (v := 0) hx hb dX6_assign_101 (by decide) ?_
        refine lv_istore (lv' := [(4, .int 0), (3, .int 1), (0, .ref y), (1, .int (nI i)), (2, .int (nI j))]) hx hb dX6_assign_102 hl (by decide) rfl (fun ls hl => ?_)
        refine lv_aload_n hx hb dX6_assign_104 rfl (lv_at hl 2 rfl) ?_
        refine lv_iload_n hx hb dX6_assign_105 rfl (lv_at hl 1 rfl) ?_
        refine lv_if_ne (tgt := 113) hx hb dX6_assign_106 (by decide) (fun _ => ?_) (fun c_7 => absurd c_7 (by decide))
        refine lv_iload hx hb dX6_assign_113 (lv_at hl 0 rfl) ?_
        refine lv_if_eq (tgt := 122) hx hb dX6_assign_115 (by decide) (fun _ => ?_) (fun c_8 => absurd c_8 (by decide))
        refine lv_iconst (v := 2) hx hb dX6_assign_122 (by decide) ?_
        refine z_calli (va_runV (As := [.int 2]) (rest := []) ⟨hx, hb, hml, hown, hts⟩ (c6_fails2 l D cy base w0 y r B  ) (cwV 1 hts gX6_assign_X6_fails rfl rfl rfl (by decide +kernel) ⟨Nat.le_of_ble_eq_true rfl, Nat.le_of_ble_eq_true rfl⟩) (z_preV hA hS hH (m_recv hA hH)) rfl rfl hl.1 rfl (lv_room (Nat.le_of_ble_eq_true rfl)) dX6_assign_123 ⟨Nat.le_of_ble_eq_true rfl, Nat.le_of_ble_eq_true rfl⟩) hS (fun r_k_9 u_k_9 H locs hw_k_9 hH hz_k_9 hS => ?_)
        rcases hw_k_9 with ⟨rfl, hu_k_9⟩
        rw [hu_k_9] at hH
        refine lv_if_eq (tgt := 131) hx hb dX6_assign_126 (by decide) (fun c_10 => absurd c_10 (by decide)) (fun _ => ?_)
        refine lv_iconst (v := 0) hx hb dX6_assign_129 (by decide) ?_
        exact z_iret hx hb hr hlocks hH hS (by
          have hc : (cd_assign B (nI i) (nI j)) = 2 := by first | (simp [cd_assign, c_6, hvP, hix, hvO, hjx]; done) | (simp_all [cd_assign]; done)
          exact Or.inr ⟨by rw [hc]; decide, by rw [hc]⟩) (by decide) (by decide) dX6_assign_130
      · refine lv_aload_n hx hb dX6_assign_35 rfl (lv_at hl 1 rfl) ?_
        refine m_arr (f := 11) (by unfold mArr; decide) hx hb hts hi6 hown hA hH (hts (.fieldLink RX6 38 "ParoleCardsModel" "on" "[I") (by decide +kernel)) rfl dX6_assign_36 ?_
        refine lv_iload_n hx hb dX6_assign_39 rfl (lv_at hl 2 rfl) ?_
        refine m_iald (f := 11) (v := (B 11 i)) (by unfold mArr; decide) rfl hx hb hA hH i rfl (by rw [show mLen 11 = 10 from rfl]; omega) rfl dX6_assign_40 ?_
        refine lv_iconst (v := (-1)) hx hb dX6_assign_41 (by decide) ?_
        refine lv_icmp_ne (tgt := 101) hx hb dX6_assign_42 (by decide) (fun c_11 => ?_) (fun c_11 => ?_)
        · refine lv_iconst (v := 0) hx hb dX6_assign_101 (by decide) ?_
          refine lv_istore (lv' := [(4, .int 0), (3, .int 1), (0, .ref y), (1, .int (nI i)), (2, .int (nI j))]) hx hb dX6_assign_102 hl (by decide) rfl (fun ls hl => ?_)
          refine lv_aload_n hx hb dX6_assign_104 rfl (lv_at hl 2 rfl) ?_
          refine lv_iload_n hx hb dX6_assign_105 rfl (lv_at hl 1 rfl) ?_
          refine lv_if_ne (tgt := 113) hx hb dX6_assign_106 (by decide) (fun _ => ?_) (fun c_12 => absurd c_12 (by decide))
          refine lv_iload hx hb dX6_assign_113 (lv_at hl 0 rfl) ?_
          refine lv_if_eq (tgt := 122) hx hb dX6_assign_115 (by decide) (fun _ => ?_) (fun c_13 => absurd c_13 (by decide))
          refine lv_iconst (v := 2) hx hb dX6_assign_122 (by decide) ?_
          refine z_calli (va_runV (As := [.int 2]) (rest := []) ⟨hx, hb, hml, hown, hts⟩ (c6_fails2 l D cy base w0 y r B  ) (cwV 1 hts gX6_assign_X6_fails rfl rfl rfl (by decide +kernel) ⟨Nat.le_of_ble_eq_true rfl, Nat.le_of_ble_eq_true rfl⟩) (z_preV hA hS hH (m_recv hA hH)) rfl rfl hl.1 rfl (lv_room (Nat.le_of_ble_eq_true rfl)) dX6_assign_123 ⟨Nat.le_of_ble_eq_true rfl, Nat.le_of_ble_eq_true rfl⟩) hS (fun r_k_14 u_k_14 H locs hw_k_14 hH hz_k_14 hS => ?_)
          rcases hw_k_14 with ⟨rfl, hu_k_14⟩
          rw [hu_k_14] at hH
          refine lv_if_eq (tgt := 131) hx hb dX6_assign_126 (by decide) (fun c_15 => absurd c_15 (by decide)) (fun _ => ?_)
          refine lv_iconst (v := 0) hx hb dX6_assign_129 (by decide) ?_
          exact z_iret hx hb hr hlocks hH hS (by
            have hc : (cd_assign B (nI i) (nI j)) = 2 := by first | (simp [cd_assign, c_6, c_11, hvP, hix, hvO, hjx]; done) | (simp_all [cd_assign]; done)
            exact Or.inr ⟨by rw [hc]; decide, by rw [hc]⟩) (by decide) (by decide) dX6_assign_130
        · refine lv_aload_n hx hb dX6_assign_45 rfl (lv_at hl 1 rfl) ?_
          refine m_arr (f := 5) (by unfold mArr; decide) hx hb hts hi6 hown hA hH (hts (.fieldLink RX6 20 "ParoleCardsModel" "skills" "[I") (by decide +kernel)) rfl dX6_assign_46 ?_
          refine lv_iload_n hx hb dX6_assign_49 rfl (lv_at hl 2 rfl) ?_
          refine m_iald (f := 5) (v := (B 5 i)) (by unfold mArr; decide) rfl hx hb hA hH i rfl (by rw [show mLen 5 = 10 from rfl]; omega) rfl dX6_assign_50 ?_
          refine lv_aload_n hx hb dX6_assign_51 rfl (lv_at hl 1 rfl) ?_
          refine m_arr (f := 23) (by unfold mArr; decide) hx hb hts hi6 hown hA hH (hts (.fieldLink RX6 71 "ParoleCardsModel" "skill" "[I") (by decide +kernel)) rfl dX6_assign_52 ?_
          refine lv_iload_n hx hb dX6_assign_55 rfl (lv_at hl 3 rfl) ?_
          refine m_iald (f := 23) (v := (B 23 j)) (by unfold mArr; decide) rfl hx hb hA hH j rfl (by rw [show mLen 23 = 8 from rfl]; omega) rfl dX6_assign_56 ?_
          refine lv_ishr hx hb dX6_assign_57 ?_
          refine lv_iconst (v := 1) hx hb dX6_assign_58 (by decide) ?_
          refine lv_iand hx hb dX6_assign_59 ?_
          refine lv_iconst (v := 1) hx hb dX6_assign_60 (by decide) ?_
          refine lv_icmp_ne (tgt := 101) hx hb dX6_assign_61 (by decide) (fun c_16 => ?_) (fun c_16 => ?_)
          · refine lv_iconst (v := 0) hx hb dX6_assign_101 (by decide) ?_
            refine lv_istore (lv' := [(4, .int 0), (3, .int 1), (0, .ref y), (1, .int (nI i)), (2, .int (nI j))]) hx hb dX6_assign_102 hl (by decide) rfl (fun ls hl => ?_)
            refine lv_aload_n hx hb dX6_assign_104 rfl (lv_at hl 2 rfl) ?_
            refine lv_iload_n hx hb dX6_assign_105 rfl (lv_at hl 1 rfl) ?_
            refine lv_if_ne (tgt := 113) hx hb dX6_assign_106 (by decide) (fun _ => ?_) (fun c_17 => absurd c_17 (by decide))
            refine lv_iload hx hb dX6_assign_113 (lv_at hl 0 rfl) ?_
            refine lv_if_eq (tgt := 122) hx hb dX6_assign_115 (by decide) (fun _ => ?_) (fun c_18 => absurd c_18 (by decide))
            refine lv_iconst (v := 2) hx hb dX6_assign_122 (by decide) ?_
            refine z_calli (va_runV (As := [.int 2]) (rest := []) ⟨hx, hb, hml, hown, hts⟩ (c6_fails2 l D cy base w0 y r B  ) (cwV 1 hts gX6_assign_X6_fails rfl rfl rfl (by decide +kernel) ⟨Nat.le_of_ble_eq_true rfl, Nat.le_of_ble_eq_true rfl⟩) (z_preV hA hS hH (m_recv hA hH)) rfl rfl hl.1 rfl (lv_room (Nat.le_of_ble_eq_true rfl)) dX6_assign_123 ⟨Nat.le_of_ble_eq_true rfl, Nat.le_of_ble_eq_true rfl⟩) hS (fun r_k_19 u_k_19 H locs hw_k_19 hH hz_k_19 hS => ?_)
            rcases hw_k_19 with ⟨rfl, hu_k_19⟩
            rw [hu_k_19] at hH
            refine lv_if_eq (tgt := 131) hx hb dX6_assign_126 (by decide) (fun c_20 => absurd c_20 (by decide)) (fun _ => ?_)
            refine lv_iconst (v := 0) hx hb dX6_assign_129 (by decide) ?_
            exact z_iret hx hb hr hlocks hH hS (by
              have hc : (cd_assign B (nI i) (nI j)) = 2 := by first | (simp [cd_assign, c_6, c_11, c_16, hvP, hix, hvO, hjx]; done) | (simp_all [cd_assign]; done)
              exact Or.inr ⟨by rw [hc]; decide, by rw [hc]⟩) (by decide) (by decide) dX6_assign_130
          · refine lv_aload_n hx hb dX6_assign_64 rfl (lv_at hl 1 rfl) ?_
            refine m_arr (f := 25) (by unfold mArr; decide) hx hb hts hi6 hown hA hH (hts (.fieldLink RX6 77 "ParoleCardsModel" "left" "[I") (by decide +kernel)) rfl dX6_assign_65 ?_
            refine lv_iload_n hx hb dX6_assign_68 rfl (lv_at hl 3 rfl) ?_
            refine m_iald (f := 25) (v := (B 25 j)) (by unfold mArr; decide) rfl hx hb hA hH j rfl (by rw [show mLen 25 = 8 from rfl]; omega) rfl dX6_assign_69 ?_
            refine lv_if_le (tgt := 101) hx hb dX6_assign_70 (by decide) (fun c_21 => ?_) (fun c_21 => ?_)
            · refine lv_iconst (v := 0) hx hb dX6_assign_101 (by decide) ?_
              refine lv_istore (lv' := [(4, .int 0), (3, .int 1), (0, .ref y), (1, .int (nI i)), (2, .int (nI j))]) hx hb dX6_assign_102 hl (by decide) rfl (fun ls hl => ?_)
              refine lv_aload_n hx hb dX6_assign_104 rfl (lv_at hl 2 rfl) ?_
              refine lv_iload_n hx hb dX6_assign_105 rfl (lv_at hl 1 rfl) ?_
              refine lv_if_ne (tgt := 113) hx hb dX6_assign_106 (by decide) (fun _ => ?_) (fun c_22 => absurd c_22 (by decide))
              refine lv_iload hx hb dX6_assign_113 (lv_at hl 0 rfl) ?_
              refine lv_if_eq (tgt := 122) hx hb dX6_assign_115 (by decide) (fun _ => ?_) (fun c_23 => absurd c_23 (by decide))
              refine lv_iconst (v := 2) hx hb dX6_assign_122 (by decide) ?_
              refine z_calli (va_runV (As := [.int 2]) (rest := []) ⟨hx, hb, hml, hown, hts⟩ (c6_fails2 l D cy base w0 y r B  ) (cwV 1 hts gX6_assign_X6_fails rfl rfl rfl (by decide +kernel) ⟨Nat.le_of_ble_eq_true rfl, Nat.le_of_ble_eq_true rfl⟩) (z_preV hA hS hH (m_recv hA hH)) rfl rfl hl.1 rfl (lv_room (Nat.le_of_ble_eq_true rfl)) dX6_assign_123 ⟨Nat.le_of_ble_eq_true rfl, Nat.le_of_ble_eq_true rfl⟩) hS (fun r_k_24 u_k_24 H locs hw_k_24 hH hz_k_24 hS => ?_)
              rcases hw_k_24 with ⟨rfl, hu_k_24⟩
              rw [hu_k_24] at hH
              refine lv_if_eq (tgt := 131) hx hb dX6_assign_126 (by decide) (fun c_25 => absurd c_25 (by decide)) (fun _ => ?_)
              refine lv_iconst (v := 0) hx hb dX6_assign_129 (by decide) ?_
              exact z_iret hx hb hr hlocks hH hS (by
                have hc : (cd_assign B (nI i) (nI j)) = 2 := by first | (simp [cd_assign, c_6, c_11, c_16, c_21, Int32.not_lt.mpr c_21, hvP, hix, hvO, hjx]; done) | (simp_all [cd_assign]; done)
                exact Or.inr ⟨by rw [hc]; decide, by rw [hc]⟩) (by decide) (by decide) dX6_assign_130
            · refine lv_aload_n hx hb dX6_assign_73 rfl (lv_at hl 1 rfl) ?_
              refine lv_aload_n hx hb dX6_assign_74 rfl (lv_at hl 1 rfl) ?_
              refine m_arr (f := 24) (by unfold mArr; decide) hx hb hts hi6 hown hA hH (hts (.fieldLink RX6 74 "ParoleCardsModel" "kind" "[I") (by decide +kernel)) rfl dX6_assign_75 ?_
              refine lv_iload_n hx hb dX6_assign_78 rfl (lv_at hl 3 rfl) ?_
              refine m_iald (f := 24) (v := (B 24 j)) (by unfold mArr; decide) rfl hx hb hA hH j rfl (by rw [show mLen 24 = 8 from rfl]; omega) rfl dX6_assign_79 ?_
              refine z_calli (va_runV (As := [.int (B 24 j)]) (rest := []) ⟨hx, hb, hml, hown, hts⟩ (c6_out l D cy base w0 y r B (B 24 j) hinv) (cwV 1 hts gX6_assign_X6_out rfl rfl rfl (by decide +kernel) ⟨Nat.le_of_ble_eq_true rfl, Nat.le_of_ble_eq_true rfl⟩) (z_preV hA hS hH (m_recv hA hH)) rfl rfl hl.1 rfl (lv_room (Nat.le_of_ble_eq_true rfl)) dX6_assign_80 ⟨Nat.le_of_ble_eq_true rfl, Nat.le_of_ble_eq_true rfl⟩) hS (fun r_k_26 u_k_26 H locs hw_k_26 hH hz_k_26 hS => ?_)
              rcases hw_k_26 with ⟨rfl, hu_k_26⟩
              rw [hu_k_26] at hH
              refine lv_aload_n hx hb dX6_assign_83 rfl (lv_at hl 1 rfl) ?_
              refine m_arr (f := 21) (by unfold mArr; decide) hx hb hts hi6 hown hA hH (hts (.fieldLink RX6 68 "ParoleCardsModel" "tools" "[I") (by decide +kernel)) rfl dX6_assign_84 ?_
              refine lv_aload_n hx hb dX6_assign_87 rfl (lv_at hl 1 rfl) ?_
              refine m_arr (f := 24) (by unfold mArr; decide) hx hb hts hi6 hown hA hH (hts (.fieldLink RX6 74 "ParoleCardsModel" "kind" "[I") (by decide +kernel)) rfl dX6_assign_88 ?_
              refine lv_iload_n hx hb dX6_assign_91 rfl (lv_at hl 3 rfl) ?_
              refine m_iald (f := 24) (v := (B 24 j)) (by unfold mArr; decide) rfl hx hb hA hH j rfl (by rw [show mLen 24 = 8 from rfl]; omega) rfl dX6_assign_92 ?_
              refine m_iald (f := 21) (v := (B 21 (kx B j))) (by unfold mArr; decide) rfl hx hb hA hH (kx B j) (mInv_kx hinv hj).1 (by rw [show mLen 21 = 3 from rfl]; exact (mInv_kx hinv hj).2) rfl dX6_assign_93 ?_
              refine lv_icmp_ge (tgt := 101) hx hb dX6_assign_94 (by decide) (fun c_27 => ?_) (fun c_27 => ?_)
              · refine lv_iconst (v := 0) hx hb dX6_assign_101 (by decide) ?_
                refine lv_istore (lv' := [(4, .int 0), (3, .int 1), (0, .ref y), (1, .int (nI i)), (2, .int (nI j))]) hx hb dX6_assign_102 hl (by decide) rfl (fun ls hl => ?_)
                refine lv_aload_n hx hb dX6_assign_104 rfl (lv_at hl 2 rfl) ?_
                refine lv_iload_n hx hb dX6_assign_105 rfl (lv_at hl 1 rfl) ?_
                refine lv_if_ne (tgt := 113) hx hb dX6_assign_106 (by decide) (fun _ => ?_) (fun c_28 => absurd c_28 (by decide))
                refine lv_iload hx hb dX6_assign_113 (lv_at hl 0 rfl) ?_
                refine lv_if_eq (tgt := 122) hx hb dX6_assign_115 (by decide) (fun _ => ?_) (fun c_29 => absurd c_29 (by decide))
                refine lv_iconst (v := 2) hx hb dX6_assign_122 (by decide) ?_
                refine z_calli (va_runV (As := [.int 2]) (rest := []) ⟨hx, hb, hml, hown, hts⟩ (c6_fails2 l D cy base w0 y r B  ) (cwV 1 hts gX6_assign_X6_fails rfl rfl rfl (by decide +kernel) ⟨Nat.le_of_ble_eq_true rfl, Nat.le_of_ble_eq_true rfl⟩) (z_preV hA hS hH (m_recv hA hH)) rfl rfl hl.1 rfl (lv_room (Nat.le_of_ble_eq_true rfl)) dX6_assign_123 ⟨Nat.le_of_ble_eq_true rfl, Nat.le_of_ble_eq_true rfl⟩) hS (fun r_k_30 u_k_30 H locs hw_k_30 hH hz_k_30 hS => ?_)
                rcases hw_k_30 with ⟨rfl, hu_k_30⟩
                rw [hu_k_30] at hH
                refine lv_if_eq (tgt := 131) hx hb dX6_assign_126 (by decide) (fun c_31 => absurd c_31 (by decide)) (fun _ => ?_)
                refine lv_iconst (v := 0) hx hb dX6_assign_129 (by decide) ?_
                exact z_iret hx hb hr hlocks hH hS (by
                  have hc : (cd_assign B (nI i) (nI j)) = 2 := by first | (simp [cd_assign, c_6, c_11, c_16, c_21, Int32.not_le.mp c_21, c_27, Int32.not_lt.mpr c_27, hvP, hix, hvO, hjx]; done) | (simp_all [cd_assign]; done)
                  exact Or.inr ⟨by rw [hc]; decide, by rw [hc]⟩) (by decide) (by decide) dX6_assign_130
              · refine lv_iconst (v := 1) hx hb dX6_assign_97 (by decide) ?_
                refine lv_goto (tgt := 102) hx hb dX6_assign_98 (by decide) ?_
                refine lv_istore (lv' := [(4, .int 1), (3, .int 1), (0, .ref y), (1, .int (nI i)), (2, .int (nI j))]) hx hb dX6_assign_102 hl (by decide) rfl (fun ls hl => ?_)
                refine lv_aload_n hx hb dX6_assign_104 rfl (lv_at hl 2 rfl) ?_
                refine lv_iload_n hx hb dX6_assign_105 rfl (lv_at hl 1 rfl) ?_
                refine lv_if_ne (tgt := 113) hx hb dX6_assign_106 (by decide) (fun _ => ?_) (fun c_32 => absurd c_32 (by decide))
                refine lv_iload hx hb dX6_assign_113 (lv_at hl 0 rfl) ?_
                refine lv_if_eq (tgt := 122) hx hb dX6_assign_115 (by decide) (fun c_33 => absurd c_33 (by decide)) (fun _ => ?_)
                refine lv_iconst (v := 0) hx hb dX6_assign_118 (by decide) ?_
                refine lv_goto (tgt := 123) hx hb dX6_assign_119 (by decide) ?_
                refine z_calli (va_runV (As := [.int 0]) (rest := []) ⟨hx, hb, hml, hown, hts⟩ (c6_fails0 l D cy base w0 y r B  ) (cwV 1 hts gX6_assign_X6_fails rfl rfl rfl (by decide +kernel) ⟨Nat.le_of_ble_eq_true rfl, Nat.le_of_ble_eq_true rfl⟩) (z_preV hA hS hH (m_recv hA hH)) rfl rfl hl.1 rfl (lv_room (Nat.le_of_ble_eq_true rfl)) dX6_assign_123 ⟨Nat.le_of_ble_eq_true rfl, Nat.le_of_ble_eq_true rfl⟩) hS (fun r_k_34 u_k_34 H locs hw_k_34 hH hz_k_34 hS => ?_)
                rcases hw_k_34 with ⟨rfl, hu_k_34⟩
                rw [hu_k_34] at hH
                refine lv_if_eq (tgt := 131) hx hb dX6_assign_126 (by decide) (fun _ => ?_) (fun c_35 => absurd c_35 (by decide))
                refine lv_aload_n hx hb dX6_assign_131 rfl (lv_at hl 2 rfl) ?_
                refine m_arr (f := 11) (by unfold mArr; decide) hx hb hts hi6 hown hA hH (hts (.fieldLink RX6 38 "ParoleCardsModel" "on" "[I") (by decide +kernel)) rfl dX6_assign_132 ?_
                refine lv_iload_n hx hb dX6_assign_135 rfl (lv_at hl 3 rfl) ?_
                refine lv_iload_n hx hb dX6_assign_136 rfl (lv_at hl 4 rfl) ?_
                refine m_iast (f := 11) (by unfold mArr; decide) rfl hx hb hA hH hS i rfl (by rw [show mLen 11 = 10 from rfl]; omega) dX6_assign_137 (fun H locs hH hS => ?_)
                refine lv_iconst (v := 0) hx hb dX6_assign_138 (by decide) ?_
                refine lv_istore (lv' := [(5, .int 0), (4, .int 1), (3, .int 1), (0, .ref y), (1, .int (nI i)), (2, .int (nI j))]) hx hb dX6_assign_139 hl (by decide) rfl (fun ls hl => ?_)
                refine lv_iconst (v := 0) hx hb dX6_assign_141 (by decide) ?_
                refine lv_istore (lv' := [(6, .int 0), (5, .int 0), (4, .int 1), (3, .int 1), (0, .ref y), (1, .int (nI i)), (2, .int (nI j))]) hx hb dX6_assign_142 hl (by decide) rfl (fun ls hl => ?_)
                have hl_36 : lv_has ls 7 [(0, .ref y), (1, .int (nI i)), (2, .int (nI j)), (5, .int 0), (6, .int 0)] := lv_sub hl [4, 5, 6, 1, 0] rfl
                have hl_36 : lv_has ls 7 [(0, .ref y), (1, .int (nI i)), (2, .int (nI j)), (5, .int (sOn (z2 (z2 B 27 0 0) 11 i (nI j)) (nI j) 0)), (6, .int (nI 0))] := hl_36
                refine z_for (nL := 7) (nP B) (fun k u => u = (z2 (z2 B 27 0 0) 11 i (nI j))) (fun k _ => [(0, .ref y), (1, .int (nI i)), (2, .int (nI j)), (5, .int (sOn (z2 (z2 B 27 0 0) 11 i (nI j)) (nI j) k)), (6, .int (nI k))]) 0 (Nat.zero_le _) rfl hH hS hl_36 ?_ ?_
                · intro u H locs ls hu hH hS hl
                  rw [hu] at hH
                  refine lv_iload hx hb dX6_assign_144 (lv_at hl 4 rfl) ?_
                  refine lv_aload_n hx hb dX6_assign_146 rfl (lv_at hl 0 rfl) ?_
                  refine m_num (f := 1) (v := ((z2 (z2 B 27 0 0) 11 i (nI j)) 1 0)) (by unfold mNum; decide) hx hb hts hi6 hown hA hH (hts (.fieldLink RX6 87 "ParoleCardsModel" "people" "I") (by decide +kernel)) rfl dX6_assign_147 ?_
                  refine lv_icmp_ge (tgt := 180) hx hb dX6_assign_150 (by decide) (fun c_37 => ?_) (fun c_37 => absurd (by show B 1 0 ≤ _; rw [hinv.1.2]; exact nI_le (Nat.le_refl _) (by have := hinv.1.1; omega)) c_37)
                  refine lv_iload hx hb dX6_assign_180 (lv_at hl 3 rfl) ?_
                  exact z_iret hx hb hr hlocks hH hS (by
                    have hc : (cd_assign B (nI i) (nI j)) = 0 := by first | (simp [cd_assign, c_6, c_11, c_16, c_21, Int32.not_le.mp c_21, c_27, Int32.not_le.mp c_27, c_37, Int32.not_lt.mpr c_37, hvP, hix, hvO, hjx]; done) | (simp_all [cd_assign]; done)
                    refine Or.inl ⟨hc, ?_, ?_⟩ <;> (simp [up_assign, an_assign, c_6, c_11, c_16, c_21, Int32.not_le.mp c_21, c_27, Int32.not_le.mp c_27, c_37, Int32.not_lt.mpr c_37, hvP, hix, hvO, hjx, z27_0, z27_1, z27_2, z27_3, z27_4, z27_5, z27_6, z27_7, z27_8, z27_9, z27_10, z27_11, z27_12, z27_13, z27_14, z27_15, z27_16, z27_17, z27_18, z27_19, z27_20, z27_21, z27_22, z27_23, z27_24, z27_25, z27_26, z27_oc, z27_ox, z27_kx, z27_nP, z27_nO]; done)) (by decide) (by decide) dX6_assign_182
                · intro k hk ih u H locs ls hu hH hS hl
                  rw [hu] at hH
                  refine lv_iload hx hb dX6_assign_144 (lv_at hl 4 rfl) ?_
                  refine lv_aload_n hx hb dX6_assign_146 rfl (lv_at hl 0 rfl) ?_
                  refine m_num (f := 1) (v := ((z2 (z2 B 27 0 0) 11 i (nI j)) 1 0)) (by unfold mNum; decide) hx hb hts hi6 hown hA hH (hts (.fieldLink RX6 87 "ParoleCardsModel" "people" "I") (by decide +kernel)) rfl dX6_assign_147 ?_
                  refine lv_icmp_ge (tgt := 180) hx hb dX6_assign_150 (by decide) (fun c_38 => absurd c_38 (by show ¬ B 1 0 ≤ _; rw [hinv.1.2]; exact nI_ge hk (by have := hinv.1.1; omega))) (fun c_38 => ?_)
                  refine lv_iload hx hb dX6_assign_153 (lv_at hl 3 rfl) ?_
                  refine lv_aload_n hx hb dX6_assign_155 rfl (lv_at hl 0 rfl) ?_
                  refine m_arr (f := 11) (by unfold mArr; decide) hx hb hts hi6 hown hA hH (hts (.fieldLink RX6 38 "ParoleCardsModel" "on" "[I") (by decide +kernel)) rfl dX6_assign_156 ?_
                  refine lv_iload hx hb dX6_assign_159 (lv_at hl 4 rfl) ?_
                  refine m_iald (f := 11) (v := ((z2 (z2 B 27 0 0) 11 i (nI j)) 11 k)) (by unfold mArr; decide) rfl hx hb hA hH k rfl (by rw [show mLen 11 = 10 from rfl]; have := hinv.1.1; omega) rfl dX6_assign_161 ?_
                  refine lv_iload_n hx hb dX6_assign_162 rfl (lv_at hl 2 rfl) ?_
                  refine lv_icmp_ne (tgt := 170) hx hb dX6_assign_163 (by decide) (fun c_39 => ?_) (fun c_39 => ?_)
                  · refine lv_iconst (v := 0) hx hb dX6_assign_170 (by decide) ?_
                    refine lv_iadd hx hb dX6_assign_171 ?_
                    refine lv_istore (lv' := [(5, .int ((sOn (z2 (z2 B 27 0 0) 11 i (nI j)) (nI j) k) + 0)), (0, .ref y), (1, .int (nI i)), (2, .int (nI j)), (6, .int (nI k))]) hx hb dX6_assign_172 hl (by decide) rfl (fun ls hl => ?_)
                    refine lv_iinc (v := ((nI k) + 1)) (lv' := [(6, .int ((nI k) + 1)), (5, .int ((sOn (z2 (z2 B 27 0 0) 11 i (nI j)) (nI j) k) + 0)), (0, .ref y), (1, .int (nI i)), (2, .int (nI j))]) hx hb dX6_assign_174 hl (k := 4) rfl rfl (by decide) rfl (fun ls hl => ?_)
                    refine lv_goto (tgt := 144) hx hb dX6_assign_177 (by decide) ?_
                    have hl_40 : lv_has ls 7 [(0, .ref y), (1, .int (nI i)), (2, .int (nI j)), (5, .int ((sOn (z2 (z2 B 27 0 0) 11 i (nI j)) (nI j) k) + 0)), (6, .int ((nI k) + 1))] := lv_sub hl [2, 3, 4, 1, 0] rfl
                    rw [show (((sOn (z2 (z2 B 27 0 0) 11 i (nI j)) (nI j) k) + 0) : Int32) = (sOn (z2 (z2 B 27 0 0) 11 i (nI j)) (nI j) (k + 1)) from (by simp [sOn, c_6, c_11, c_16, c_21, Int32.not_le.mp c_21, c_27, Int32.not_le.mp c_27, c_38, Int32.not_le.mp c_38, c_39])] at hl_40
                    rw [show (((nI k) + 1) : Int32) = (nI (k + 1)) from (nI_1 _)] at hl_40
                    have hl_40 : lv_has ls 7 [(0, .ref y), (1, .int (nI i)), (2, .int (nI j)), (5, .int (sOn (z2 (z2 B 27 0 0) 11 i (nI j)) (nI j) (k + 1))), (6, .int (nI (k + 1)))] := hl_40
                    exact ih _ _ _ _ rfl hH hS hl_40
                  · refine lv_iconst (v := 1) hx hb dX6_assign_166 (by decide) ?_
                    refine lv_goto (tgt := 171) hx hb dX6_assign_167 (by decide) ?_
                    refine lv_iadd hx hb dX6_assign_171 ?_
                    refine lv_istore (lv' := [(5, .int ((sOn (z2 (z2 B 27 0 0) 11 i (nI j)) (nI j) k) + 1)), (0, .ref y), (1, .int (nI i)), (2, .int (nI j)), (6, .int (nI k))]) hx hb dX6_assign_172 hl (by decide) rfl (fun ls hl => ?_)
                    refine lv_iinc (v := ((nI k) + 1)) (lv' := [(6, .int ((nI k) + 1)), (5, .int ((sOn (z2 (z2 B 27 0 0) 11 i (nI j)) (nI j) k) + 1)), (0, .ref y), (1, .int (nI i)), (2, .int (nI j))]) hx hb dX6_assign_174 hl (k := 4) rfl rfl (by decide) rfl (fun ls hl => ?_)
                    refine lv_goto (tgt := 144) hx hb dX6_assign_177 (by decide) ?_
                    have hl_41 : lv_has ls 7 [(0, .ref y), (1, .int (nI i)), (2, .int (nI j)), (5, .int ((sOn (z2 (z2 B 27 0 0) 11 i (nI j)) (nI j) k) + 1)), (6, .int ((nI k) + 1))] := lv_sub hl [2, 3, 4, 1, 0] rfl
                    rw [show (((sOn (z2 (z2 B 27 0 0) 11 i (nI j)) (nI j) k) + 1) : Int32) = (sOn (z2 (z2 B 27 0 0) 11 i (nI j)) (nI j) (k + 1)) from (by simp [sOn, c_6, c_11, c_16, c_21, Int32.not_le.mp c_21, c_27, Int32.not_le.mp c_27, c_38, Int32.not_le.mp c_38, c_39])] at hl_41
                    rw [show (((nI k) + 1) : Int32) = (nI (k + 1)) from (nI_1 _)] at hl_41
                    have hl_41 : lv_has ls 7 [(0, .ref y), (1, .int (nI i)), (2, .int (nI j)), (5, .int (sOn (z2 (z2 B 27 0 0) 11 i (nI j)) (nI j) (k + 1))), (6, .int (nI (k + 1)))] := hl_41
                    exact ih _ _ _ _ rfl hH hS hl_41
    · refine lv_aload_n hx hb dX6_assign_0 rfl (lv_at hl 0 rfl) ?_
      refine lv_iload_n hx hb dX6_assign_1 rfl (lv_at hl 1 rfl) ?_
      refine z_calli (va_runV (As := [.int (nI i)]) (rest := []) ⟨hx, hb, hml, hown, hts⟩ (c6_isPerson_t l D cy base w0 y r B i hvP) (cwV 1 hts gX6_assign_X6_isPerson rfl rfl rfl (by decide +kernel) ⟨Nat.le_of_ble_eq_true rfl, Nat.le_of_ble_eq_true rfl⟩) (z_preV hA hS hH (m_recv hA hH)) rfl rfl hl.1 rfl (lv_room (Nat.le_of_ble_eq_true rfl)) dX6_assign_2 ⟨Nat.le_of_ble_eq_true rfl, Nat.le_of_ble_eq_true rfl⟩) hS (fun r_k_42 u_k_42 H locs hw_k_42 hH hz_k_42 hS => ?_)
      rcases hw_k_42 with ⟨rfl, hu_k_42⟩
      rw [hu_k_42] at hH
      refine lv_if_eq (tgt := 20) hx hb dX6_assign_5 (by decide) (fun c_43 => absurd c_43 (by decide)) (fun _ => ?_)
      refine lv_aload_n hx hb dX6_assign_8 rfl (lv_at hl 0 rfl) ?_
      refine lv_iload_n hx hb dX6_assign_9 rfl (lv_at hl 2 rfl) ?_
      refine z_calli (va_runV (As := [.int o]) (rest := []) ⟨hx, hb, hml, hown, hts⟩ (c6_isOrder_f l D cy base w0 y r B o hvO) (cwV 1 hts gX6_assign_X6_isOrder rfl rfl rfl (by decide +kernel) ⟨Nat.le_of_ble_eq_true rfl, Nat.le_of_ble_eq_true rfl⟩) (z_preV hA hS hH (m_recv hA hH)) rfl rfl hl.1 rfl (lv_room (Nat.le_of_ble_eq_true rfl)) dX6_assign_10 ⟨Nat.le_of_ble_eq_true rfl, Nat.le_of_ble_eq_true rfl⟩) hS (fun r_k_44 u_k_44 H locs hw_k_44 hH hz_k_44 hS => ?_)
      rcases hw_k_44 with ⟨rfl, hu_k_44⟩
      rw [hu_k_44] at hH
      refine lv_if_eq (tgt := 20) hx hb dX6_assign_13 (by decide) (fun _ => ?_) (fun c_45 => absurd c_45 (by decide))
      refine lv_iconst (v := 0) hx hb dX6_assign_20 (by decide) ?_
      refine lv_istore_n (lv' := [(3, .int 0), (0, .ref y), (1, .int (nI i)), (2, .int o)]) hx hb dX6_assign_21 rfl hl (by decide) rfl (fun ls hl => ?_)
      refine lv_iload_n hx hb dX6_assign_22 rfl (lv_at hl 0 rfl) ?_
      refine lv_if_eq (tgt := 101) hx hb dX6_assign_23 (by decide) (fun _ => ?_) (fun c_46 => absurd c_46 (by decide))
      refine lv_iconst (v := 0) hx hb dX6_assign_101 (by decide) ?_
      refine lv_istore (lv' := [(4, .int 0), (3, .int 0), (0, .ref y), (1, .int (nI i)), (2, .int o)]) hx hb dX6_assign_102 hl (by decide) rfl (fun ls hl => ?_)
      refine lv_aload_n hx hb dX6_assign_104 rfl (lv_at hl 2 rfl) ?_
      refine lv_iload_n hx hb dX6_assign_105 rfl (lv_at hl 1 rfl) ?_
      refine lv_if_ne (tgt := 113) hx hb dX6_assign_106 (by decide) (fun c_47 => absurd c_47 (by decide)) (fun _ => ?_)
      refine lv_iconst (v := 1) hx hb dX6_assign_109 (by decide) ?_
      refine lv_goto (tgt := 123) hx hb dX6_assign_110 (by decide) ?_
      refine z_calli (va_runV (As := [.int 1]) (rest := []) ⟨hx, hb, hml, hown, hts⟩ (c6_fails1 l D cy base w0 y r B  ) (cwV 1 hts gX6_assign_X6_fails rfl rfl rfl (by decide +kernel) ⟨Nat.le_of_ble_eq_true rfl, Nat.le_of_ble_eq_true rfl⟩) (z_preV hA hS hH (m_recv hA hH)) rfl rfl hl.1 rfl (lv_room (Nat.le_of_ble_eq_true rfl)) dX6_assign_123 ⟨Nat.le_of_ble_eq_true rfl, Nat.le_of_ble_eq_true rfl⟩) hS (fun r_k_48 u_k_48 H locs hw_k_48 hH hz_k_48 hS => ?_)
      rcases hw_k_48 with ⟨rfl, hu_k_48⟩
      rw [hu_k_48] at hH
      refine lv_if_eq (tgt := 131) hx hb dX6_assign_126 (by decide) (fun c_49 => absurd c_49 (by decide)) (fun _ => ?_)
      refine lv_iconst (v := 0) hx hb dX6_assign_129 (by decide) ?_
      exact z_iret hx hb hr hlocks hH hS (by
        have hc : (cd_assign B (nI i) o) = 1 := by first | (simp [cd_assign, hvP, hix, hvO]; done) | (simp_all [cd_assign]; done)
        exact Or.inr ⟨by rw [hc]; decide, by rw [hc]⟩) (by decide) (by decide) dX6_assign_130
  · refine lv_aload_n hx hb dX6_assign_0 rfl (lv_at hl 0 rfl) ?_
    refine lv_iload_n hx hb dX6_assign_1 rfl (lv_at hl 1 rfl) ?_
    refine z_calli (va_runV (As := [.int its]) (rest := []) ⟨hx, hb, hml, hown, hts⟩ (c6_isPerson_f l D cy base w0 y r B its hvP) (cwV 1 hts gX6_assign_X6_isPerson rfl rfl rfl (by decide +kernel) ⟨Nat.le_of_ble_eq_true rfl, Nat.le_of_ble_eq_true rfl⟩) (z_preV hA hS hH (m_recv hA hH)) rfl rfl hl.1 rfl (lv_room (Nat.le_of_ble_eq_true rfl)) dX6_assign_2 ⟨Nat.le_of_ble_eq_true rfl, Nat.le_of_ble_eq_true rfl⟩) hS (fun r_k_50 u_k_50 H locs hw_k_50 hH hz_k_50 hS => ?_)
    rcases hw_k_50 with ⟨rfl, hu_k_50⟩
    rw [hu_k_50] at hH
    refine lv_if_eq (tgt := 20) hx hb dX6_assign_5 (by decide) (fun _ => ?_) (fun c_51 => absurd c_51 (by decide))
    refine lv_iconst (v := 0) hx hb dX6_assign_20 (by decide) ?_
    refine lv_istore_n (lv' := [(3, .int 0), (0, .ref y), (1, .int its), (2, .int o)]) hx hb dX6_assign_21 rfl hl (by decide) rfl (fun ls hl => ?_)
    refine lv_iload_n hx hb dX6_assign_22 rfl (lv_at hl 0 rfl) ?_
    refine lv_if_eq (tgt := 101) hx hb dX6_assign_23 (by decide) (fun _ => ?_) (fun c_52 => absurd c_52 (by decide))
    refine lv_iconst (v := 0) hx hb dX6_assign_101 (by decide) ?_
    refine lv_istore (lv' := [(4, .int 0), (3, .int 0), (0, .ref y), (1, .int its), (2, .int o)]) hx hb dX6_assign_102 hl (by decide) rfl (fun ls hl => ?_)
    refine lv_aload_n hx hb dX6_assign_104 rfl (lv_at hl 2 rfl) ?_
    refine lv_iload_n hx hb dX6_assign_105 rfl (lv_at hl 1 rfl) ?_
    refine lv_if_ne (tgt := 113) hx hb dX6_assign_106 (by decide) (fun c_53 => absurd c_53 (by decide)) (fun _ => ?_)
    refine lv_iconst (v := 1) hx hb dX6_assign_109 (by decide) ?_
    refine lv_goto (tgt := 123) hx hb dX6_assign_110 (by decide) ?_
    refine z_calli (va_runV (As := [.int 1]) (rest := []) ⟨hx, hb, hml, hown, hts⟩ (c6_fails1 l D cy base w0 y r B  ) (cwV 1 hts gX6_assign_X6_fails rfl rfl rfl (by decide +kernel) ⟨Nat.le_of_ble_eq_true rfl, Nat.le_of_ble_eq_true rfl⟩) (z_preV hA hS hH (m_recv hA hH)) rfl rfl hl.1 rfl (lv_room (Nat.le_of_ble_eq_true rfl)) dX6_assign_123 ⟨Nat.le_of_ble_eq_true rfl, Nat.le_of_ble_eq_true rfl⟩) hS (fun r_k_54 u_k_54 H locs hw_k_54 hH hz_k_54 hS => ?_)
    rcases hw_k_54 with ⟨rfl, hu_k_54⟩
    rw [hu_k_54] at hH
    refine lv_if_eq (tgt := 131) hx hb dX6_assign_126 (by decide) (fun c_55 => absurd c_55 (by decide)) (fun _ => ?_)
    refine lv_iconst (v := 0) hx hb dX6_assign_129 (by decide) ?_
    exact z_iret hx hb hr hlocks hH hS (by
      have hc : (cd_assign B its o) = 1 := by first | (simp [cd_assign, hvP]; done) | (simp_all [cd_assign]; done)
      exact Or.inr ⟨by rw [hc]; decide, by rw [hc]⟩) (by decide) (by decide) dX6_assign_130
