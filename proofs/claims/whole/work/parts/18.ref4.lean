set_option maxHeartbeats 4000000 in
set_option maxRecDepth 100000 in
theorem c6_pass (l : Launch) (D : va_G) (cy : Nat → ClassId) (base : Nat) (w0 : zW) (y : Nat) (r : Nat → Nat) (B : Nat → Nat → Int32) (d : Int32) (hinv : mInv B) : Met l yX6_pass wsX6_pass ({ frames := 3, cells := 0, slots := 0, locals := 67 }) (zPc D cy base (mH D cy base w0 y r) [.ref y, .int d] B) (zQi base (mH D cy base w0 y r) (fun (r0 : Int32) (u0 : Nat → Nat → Int32) => ((cd_pass B d) = 0 ∧ r0 = (an_pass (z2 B 27 0 0) d) ∧ u0 = (up_pass (z2 B 27 0 0) d)) ∨ (¬ (cd_pass B d) = 0 ∧ u0 = (z2 B 27 0 (cd_pass B d))))) 0 0 (fun q => base ≤ q) := by
  refine Met.ofW (cc := cX6_pass) (maxL := 5) (ret := (some .int)) (by decide) rfl ?_
  intro p e s m args below meth c s₁ B9 hml hv
  obtain ⟨rfl, hA, hH⟩ := hv
  have hx := B9.exec
  have hb := B9.bytes
  have hr := B9.returns
  have hts := atoms_spec (ws := wsX6_pass) B9.pre
  have hown : s.vm.findClass RX6 = some m.cls := findClass_of_methodNamed B9.named
  have hlocks := B9.notSynchronized
  have hi6 : ∀ w ∈ wsX60, w ∈ wsX6_pass := by decide +kernel
  have hS : va_S (fun q : Nat => base ≤ q) s.heap s.heap [] := va_S.rf
  have hl := lv_entry ([.ref y, .int d]) (n := 5) (Nat.le_of_ble_eq_true rfl)
  rw [lg_entry_eq]
  generalize (lg_sl ([.ref y, .int d]) ++ List.replicate (5 - (lg_sl ([.ref y, .int d])).length) Slot.unset).toArray = ls at hl ⊢
  have hl : lv_has ls 5 [(0, .ref y), (1, .int d)] := hl
  rcases vDays_split d with ⟨q, rfl, hq, hvD, hqx⟩ | hvD
  · refine lv_aload_n hx hb dX6_pass_0 rfl (lv_at hl 0 rfl) ?_
    refine lv_iload_n hx hb dX6_pass_1 rfl (lv_at hl 1 rfl) ?_
    refine lv_iconst (v := 1) hx hb dX6_pass_2 (by decide) ?_
    refine lv_bipush (v := 100) hx hb dX6_pass_3 (by decide) ?_
    refine z_calli (va_runS (As := [.int (nI q), .int 1, .int 100]) (rest := [.ref y]) ⟨hx, hb, hml, hown, hts⟩ (c6_lies l D cy base w0 y r B (nI q) 1 100 ) (va_cwS 3 hts gX6_pass_X6_lies rfl rfl rfl (by decide +kernel) ⟨Nat.le_of_ble_eq_true rfl, Nat.le_of_ble_eq_true rfl⟩) (z_preS hA hS hH) rfl rfl hl.1 rfl (lv_room (Nat.le_of_ble_eq_true rfl)) dX6_pass_5 ⟨Nat.le_of_ble_eq_true rfl, Nat.le_of_ble_eq_true rfl⟩) hS (fun r_k_1 u_k_1 H locs hw_k_1 hH hz_k_1 hS => ?_)
    rcases hw_k_1 with ⟨h_k_1_0, rfl, hu_k_1⟩ | ⟨h_k_1_0, rfl, hu_k_1⟩
    · rw [hu_k_1] at hH
      refine lv_if_eq (tgt := 15) hx hb dX6_pass_8 (by decide) (fun c_2 => absurd c_2 (by decide)) (fun _ => ?_)
      refine lv_iconst (v := 0) hx hb dX6_pass_11 (by decide) ?_
      refine lv_goto (tgt := 16) hx hb dX6_pass_12 (by decide) ?_
      refine z_calli (va_runV (As := [.int 0]) (rest := []) ⟨hx, hb, hml, hown, hts⟩ (c6_fails0 l D cy base w0 y r B  ) (cwV 1 hts gX6_pass_X6_fails rfl rfl rfl (by decide +kernel) ⟨Nat.le_of_ble_eq_true rfl, Nat.le_of_ble_eq_true rfl⟩) (z_preV hA hS hH (m_recv hA hH)) rfl rfl hl.1 rfl (lv_room (Nat.le_of_ble_eq_true rfl)) dX6_pass_16 ⟨Nat.le_of_ble_eq_true rfl, Nat.le_of_ble_eq_true rfl⟩) hS (fun r_k_3 u_k_3 H locs hw_k_3 hH hz_k_3 hS => ?_)
      rcases hw_k_3 with ⟨rfl, hu_k_3⟩
      rw [hu_k_3] at hH
      refine lv_if_eq (tgt := 24) hx hb dX6_pass_19 (by decide) (fun _ => ?_) (fun c_4 => absurd c_4 (by decide))
      refine lv_iconst (v := 0) hx hb dX6_pass_24 (by decide) ?_
      refine lv_istore_n (lv' := [(2, .int 0), (0, .ref y), (1, .int (nI q))]) hx hb dX6_pass_25 rfl hl (by decide) rfl (fun ls hl => ?_)
      refine lv_iconst (v := 0) hx hb dX6_pass_26 (by decide) ?_
      refine lv_istore_n (lv' := [(3, .int 0), (2, .int 0), (0, .ref y), (1, .int (nI q))]) hx hb dX6_pass_27 rfl hl (by decide) rfl (fun ls hl => ?_)
      have hl_5 : lv_has ls 5 [(0, .ref y), (1, .int (nI q)), (2, .int 0), (3, .int 0)] := lv_sub hl [2, 3, 1, 0] rfl
      have hl_5 : lv_has ls 5 [(0, .ref y), (1, .int (nI q)), (2, .int (sDaysN (z2 B 27 0 0) 0)), (3, .int (nI 0))] := hl_5
      refine z_for (nL := 5) (q) (fun dd u => u = (sDays (z2 B 27 0 0) dd)) (fun dd _ => [(0, .ref y), (1, .int (nI q)), (2, .int (sDaysN (z2 B 27 0 0) dd)), (3, .int (nI dd))]) 0 (Nat.zero_le _) rfl hH hS hl_5 ?_ ?_
      · intro u H locs ls hu hH hS hl
        rw [hu] at hH
        refine lv_iload_n hx hb dX6_pass_28 rfl (lv_at hl 3 rfl) ?_
        refine lv_iload_n hx hb dX6_pass_29 rfl (lv_at hl 1 rfl) ?_
        refine lv_icmp_ge (tgt := 162) hx hb dX6_pass_30 (by decide) (fun c_6 => ?_) (fun c_6 => absurd (nI_le (Nat.le_refl _) (by omega)) c_6)
        refine lv_iload_n hx hb dX6_pass_162 rfl (lv_at hl 2 rfl) ?_
        exact z_iret hx hb hr hlocks hH hS (by
          have hc : (cd_pass B (nI q)) = 0 := by first | (simp [cd_pass, h_k_1_0, c_6, Int32.not_lt.mpr c_6, hvD, hqx]; done) | (simp_all [cd_pass]; done)
          refine Or.inl ⟨hc, ?_, ?_⟩ <;> (simp [up_pass, an_pass, h_k_1_0, c_6, Int32.not_lt.mpr c_6, hvD, hqx, z27_0, z27_1, z27_2, z27_3, z27_4, z27_5, z27_6, z27_7, z27_8, z27_9, z27_10, z27_11, z27_12, z27_13, z27_14, z27_15, z27_16, z27_17, z27_18, z27_19, z27_20, z27_21, z27_22, z27_23, z27_24, z27_25, z27_26, z27_oc, z27_ox, z27_kx, z27_nP, z27_nO]; done)) (by decide) (by decide) dX6_pass_163
      · intro dd hdd ih u H locs ls hu hH hS hl
        rw [hu] at hH
        obtain ⟨hID, hnD, -⟩ := mInv_same (mInv_27 hinv 0) (sDays_same (z2 B 27 0 0) dd)
        refine lv_iload_n hx hb dX6_pass_28 rfl (lv_at hl 3 rfl) ?_
        refine lv_iload_n hx hb dX6_pass_29 rfl (lv_at hl 1 rfl) ?_
        refine lv_icmp_ge (tgt := 162) hx hb dX6_pass_30 (by decide) (fun c_7 => absurd c_7 (nI_ge hdd (by omega))) (fun c_7 => ?_)
        refine lv_iconst (v := 0) hx hb dX6_pass_33 (by decide) ?_
        refine lv_istore (lv' := [(4, .int 0), (0, .ref y), (1, .int (nI q)), (2, .int (sDaysN (z2 B 27 0 0) dd)), (3, .int (nI dd))]) hx hb dX6_pass_34 hl (by decide) rfl (fun ls hl => ?_)
        have hl_8 : lv_has ls 5 [(0, .ref y), (1, .int (nI q)), (2, .int (sDaysN (z2 B 27 0 0) dd)), (3, .int (nI dd)), (4, .int 0)] := lv_sub hl [1, 2, 3, 4, 0] rfl
        have hl_8 : lv_has ls 5 [(0, .ref y), (1, .int (nI q)), (2, .int (sDaysN (z2 B 27 0 0) dd)), (3, .int (nI dd)), (4, .int (nI 0))] := hl_8
        refine z_for (nL := 5) (nP (sDays (z2 B 27 0 0) dd)) (fun k u => u = (sWorks (sDays (z2 B 27 0 0) dd) k)) (fun k _ => [(0, .ref y), (1, .int (nI q)), (2, .int (sDaysN (z2 B 27 0 0) dd)), (3, .int (nI dd)), (4, .int (nI k))]) 0 (Nat.zero_le _) rfl hH hS hl_8 ?_ ?_
        · intro u H locs ls hu hH hS hl
          rw [hu] at hH
          obtain ⟨hIa, hna, -⟩ := mInv_same hID (sWorks_same (sDays (z2 B 27 0 0) dd) (nP (sDays (z2 B 27 0 0) dd)))
          refine lv_iload hx hb dX6_pass_36 (lv_at hl 4 rfl) ?_
          refine lv_aload_n hx hb dX6_pass_38 rfl (lv_at hl 0 rfl) ?_
          refine m_num (f := 1) (v := ((sWorks (sDays (z2 B 27 0 0) dd) (nP (sDays (z2 B 27 0 0) dd))) 1 0)) (by unfold mNum; decide) hx hb hts hi6 hown hA hH (hts (.fieldLink RX6 87 "ParoleCardsModel" "people" "I") (by decide +kernel)) rfl dX6_pass_39 ?_
          refine lv_icmp_ge (tgt := 57) hx hb dX6_pass_42 (by decide) (fun c_9 => ?_) (fun c_9 => absurd (by rw [hIa.1.2, hna]; have := hID.1.1; exact nI_le (Nat.le_refl _) (by omega)) c_9)
          refine lv_iconst (v := 0) hx hb dX6_pass_57 (by decide) ?_
          refine lv_istore (lv' := [(4, .int 0), (0, .ref y), (1, .int (nI q)), (2, .int (sDaysN (z2 B 27 0 0) dd)), (3, .int (nI dd))]) hx hb dX6_pass_58 hl (by decide) rfl (fun ls hl => ?_)
          have hl_10 : lv_has ls 5 [(0, .ref y), (1, .int (nI q)), (2, .int (sDaysN (z2 B 27 0 0) dd)), (3, .int (nI dd)), (4, .int 0)] := lv_sub hl [1, 2, 3, 4, 0] rfl
          have hl_10 : lv_has ls 5 [(0, .ref y), (1, .int (nI q)), (2, .int (sDaysN (z2 B 27 0 0) dd)), (3, .int (nI dd)), (4, .int (nI 0))] := hl_10
          refine z_for (nL := 5) (nP (sDays (z2 B 27 0 0) dd)) (fun k u => u = (sLeaves (sWorks (sDays (z2 B 27 0 0) dd) (nP (sDays (z2 B 27 0 0) dd))) k)) (fun k _ => [(0, .ref y), (1, .int (nI q)), (2, .int (sDaysN (z2 B 27 0 0) dd)), (3, .int (nI dd)), (4, .int (nI k))]) 0 (Nat.zero_le _) rfl hH hS hl_10 ?_ ?_
          · intro u H locs ls hu hH hS hl
            rw [hu] at hH
            obtain ⟨hIb, hnb, -⟩ := mInv_same hID (mSame_tr (sWorks_same (sDays (z2 B 27 0 0) dd) _) (sLeaves_same (sWorks (sDays (z2 B 27 0 0) dd) (nP (sDays (z2 B 27 0 0) dd))) (nP (sDays (z2 B 27 0 0) dd))))
            refine lv_iload hx hb dX6_pass_60 (lv_at hl 4 rfl) ?_
            refine lv_aload_n hx hb dX6_pass_62 rfl (lv_at hl 0 rfl) ?_
            refine m_num (f := 1) (v := ((sLeaves (sWorks (sDays (z2 B 27 0 0) dd) (nP (sDays (z2 B 27 0 0) dd))) (nP (sDays (z2 B 27 0 0) dd))) 1 0)) (by unfold mNum; decide) hx hb hts hi6 hown hA hH (hts (.fieldLink RX6 87 "ParoleCardsModel" "people" "I") (by decide +kernel)) rfl dX6_pass_63 ?_
            refine lv_icmp_ge (tgt := 119) hx hb dX6_pass_66 (by decide) (fun c_11 => ?_) (fun c_11 => absurd (by rw [hIb.1.2, hnb]; have := hID.1.1; exact nI_le (Nat.le_refl _) (by omega)) c_11)
            refine lv_aload_n hx hb dX6_pass_119 rfl (lv_at hl 0 rfl) ?_
            refine lv_dup hx hb dX6_pass_120 rfl ?_
            refine m_num (f := 0) (v := ((sLeaves (sWorks (sDays (z2 B 27 0 0) dd) (nP (sDays (z2 B 27 0 0) dd))) (nP (sDays (z2 B 27 0 0) dd))) 0 0)) (by unfold mNum; decide) hx hb hts hi6 hown hA hH (hts (.fieldLink RX6 101 "ParoleCardsModel" "today" "I") (by decide +kernel)) rfl dX6_pass_121 ?_
            refine lv_iconst (v := 1) hx hb dX6_pass_124 (by decide) ?_
            refine lv_iadd hx hb dX6_pass_125 ?_
            refine m_put (f := 0) (by unfold mNum; decide) hx hb hts hi6 hown hA hH hS (hts (.fieldLink RX6 101 "ParoleCardsModel" "today" "I") (by decide +kernel)) dX6_pass_126 (fun H locs hH hS => ?_)
            refine lv_iconst (v := 0) hx hb dX6_pass_129 (by decide) ?_
            refine lv_istore (lv' := [(4, .int 0), (0, .ref y), (1, .int (nI q)), (2, .int (sDaysN (z2 B 27 0 0) dd)), (3, .int (nI dd))]) hx hb dX6_pass_130 hl (by decide) rfl (fun ls hl => ?_)
            have hl_12 : lv_has ls 5 [(0, .ref y), (1, .int (nI q)), (2, .int (sDaysN (z2 B 27 0 0) dd)), (3, .int (nI dd)), (4, .int 0)] := lv_sub hl [1, 2, 3, 4, 0] rfl
            have hl_12 : lv_has ls 5 [(0, .ref y), (1, .int (nI q)), (2, .int (sGoesN (sMorn (sDays (z2 B 27 0 0) dd)) (sDaysN (z2 B 27 0 0) dd) 0)), (3, .int (nI dd)), (4, .int (nI 0))] := hl_12
            refine z_for (nL := 5) (nP (sDays (z2 B 27 0 0) dd)) (fun k u => u = (sGoes (sMorn (sDays (z2 B 27 0 0) dd)) k)) (fun k _ => [(0, .ref y), (1, .int (nI q)), (2, .int (sGoesN (sMorn (sDays (z2 B 27 0 0) dd)) (sDaysN (z2 B 27 0 0) dd) k)), (3, .int (nI dd)), (4, .int (nI k))]) 0 (Nat.zero_le _) rfl hH hS hl_12 ?_ ?_
            · intro u H locs ls hu hH hS hl
              rw [hu] at hH
              obtain ⟨hIc, hnc, -⟩ := mInv_same hID (mSame_tr (sMorn_same (sDays (z2 B 27 0 0) dd)) (sGoes_same _ (nP (sDays (z2 B 27 0 0) dd))))
              refine lv_iload hx hb dX6_pass_132 (lv_at hl 4 rfl) ?_
              refine lv_aload_n hx hb dX6_pass_134 rfl (lv_at hl 0 rfl) ?_
              refine m_num (f := 1) (v := ((sGoes (sMorn (sDays (z2 B 27 0 0) dd)) (nP (sDays (z2 B 27 0 0) dd))) 1 0)) (by unfold mNum; decide) hx hb hts hi6 hown hA hH (hts (.fieldLink RX6 87 "ParoleCardsModel" "people" "I") (by decide +kernel)) rfl dX6_pass_135 ?_
              refine lv_icmp_ge (tgt := 156) hx hb dX6_pass_138 (by decide) (fun c_13 => ?_) (fun c_13 => absurd (by rw [hIc.1.2, hnc]; have := hID.1.1; exact nI_le (Nat.le_refl _) (by omega)) c_13)
              refine lv_iinc (v := ((nI dd) + 1)) (lv' := [(3, .int ((nI dd) + 1)), (0, .ref y), (1, .int (nI q)), (2, .int (sGoesN (sMorn (sDays (z2 B 27 0 0) dd)) (sDaysN (z2 B 27 0 0) dd) (nP (sDays (z2 B 27 0 0) dd)))), (4, .int (nI (nP (sDays (z2 B 27 0 0) dd))))]) hx hb dX6_pass_156 hl (k := 3) rfl rfl (by decide) rfl (fun ls hl => ?_)
              refine lv_goto (tgt := 28) hx hb dX6_pass_159 (by decide) ?_
              have hl_14 : lv_has ls 5 [(0, .ref y), (1, .int (nI q)), (2, .int (sGoesN (sMorn (sDays (z2 B 27 0 0) dd)) (sDaysN (z2 B 27 0 0) dd) (nP (sDays (z2 B 27 0 0) dd)))), (3, .int ((nI dd) + 1))] := lv_sub hl [1, 2, 3, 0] rfl
              rw [show (((nI dd) + 1) : Int32) = (nI (dd + 1)) from (nI_1 _)] at hl_14
              have hl_14 : lv_has ls 5 [(0, .ref y), (1, .int (nI q)), (2, .int (sDaysN (z2 B 27 0 0) (dd + 1))), (3, .int (nI (dd + 1)))] := hl_14
              exact ih _ _ _ _ rfl hH hS hl_14
            · intro k hk ih u H locs ls hu hH hS hl
              rw [hu] at hH
              obtain ⟨hIc, hnc, -⟩ := mInv_same hID (mSame_tr (sMorn_same (sDays (z2 B 27 0 0) dd)) (sGoes_same _ k))
              have hk10 := mInv_P10 hID hk
              refine lv_iload hx hb dX6_pass_132 (lv_at hl 4 rfl) ?_
              refine lv_aload_n hx hb dX6_pass_134 rfl (lv_at hl 0 rfl) ?_
              refine m_num (f := 1) (v := ((sGoes (sMorn (sDays (z2 B 27 0 0) dd)) k) 1 0)) (by unfold mNum; decide) hx hb hts hi6 hown hA hH (hts (.fieldLink RX6 87 "ParoleCardsModel" "people" "I") (by decide +kernel)) rfl dX6_pass_135 ?_
              refine lv_icmp_ge (tgt := 156) hx hb dX6_pass_138 (by decide) (fun c_15 => absurd c_15 (by rw [hIc.1.2, hnc]; have := hID.1.1; exact nI_ge hk (by omega))) (fun c_15 => ?_)
              refine lv_iload_n hx hb dX6_pass_141 rfl (lv_at hl 2 rfl) ?_
              refine lv_aload_n hx hb dX6_pass_142 rfl (lv_at hl 0 rfl) ?_
              refine lv_iload hx hb dX6_pass_143 (lv_at hl 4 rfl) ?_
              refine z_calli (va_runV (As := [.int (nI k)]) (rest := [.int (sGoesN (sMorn (sDays (z2 B 27 0 0) dd)) (sDaysN (z2 B 27 0 0) dd) k)]) ⟨hx, hb, hml, hown, hts⟩ (c6_goes l D cy base w0 y r (sGoes (sMorn (sDays (z2 B 27 0 0) dd)) k) k (by omega) (mInv_oc50 hIc (by rw [hnc]; exact hk)).1 (mInv_oc50 hIc (by rw [hnc]; exact hk)).2) (cwV 1 hts gX6_pass_X6_goes rfl rfl rfl (by decide +kernel) ⟨Nat.le_of_ble_eq_true rfl, Nat.le_of_ble_eq_true rfl⟩) (z_preV hA hS hH (m_recv hA hH)) rfl rfl hl.1 rfl (lv_room (Nat.le_of_ble_eq_true rfl)) dX6_pass_145 ⟨Nat.le_of_ble_eq_true rfl, Nat.le_of_ble_eq_true rfl⟩) hS (fun r_k_16 u_k_16 H locs hw_k_16 hH hz_k_16 hS => ?_)
              rcases hw_k_16 with ⟨rfl, hu_k_16⟩
              rw [hu_k_16] at hH
              refine lv_iadd hx hb dX6_pass_148 ?_
              refine lv_istore_n (lv' := [(2, .int ((sGoesN (sMorn (sDays (z2 B 27 0 0) dd)) (sDaysN (z2 B 27 0 0) dd) k) + (sGoN (sGoes (sMorn (sDays (z2 B 27 0 0) dd)) k) k))), (0, .ref y), (1, .int (nI q)), (3, .int (nI dd)), (4, .int (nI k))]) hx hb dX6_pass_149 rfl hl (by decide) rfl (fun ls hl => ?_)
              refine lv_iinc (v := ((nI k) + 1)) (lv' := [(4, .int ((nI k) + 1)), (2, .int ((sGoesN (sMorn (sDays (z2 B 27 0 0) dd)) (sDaysN (z2 B 27 0 0) dd) k) + (sGoN (sGoes (sMorn (sDays (z2 B 27 0 0) dd)) k) k))), (0, .ref y), (1, .int (nI q)), (3, .int (nI dd))]) hx hb dX6_pass_150 hl (k := 4) rfl rfl (by decide) rfl (fun ls hl => ?_)
              refine lv_goto (tgt := 132) hx hb dX6_pass_153 (by decide) ?_
              have hl_17 : lv_has ls 5 [(0, .ref y), (1, .int (nI q)), (2, .int ((sGoesN (sMorn (sDays (z2 B 27 0 0) dd)) (sDaysN (z2 B 27 0 0) dd) k) + (sGoN (sGoes (sMorn (sDays (z2 B 27 0 0) dd)) k) k))), (3, .int (nI dd)), (4, .int ((nI k) + 1))] := lv_sub hl [2, 3, 1, 4, 0] rfl
              rw [show (((nI k) + 1) : Int32) = (nI (k + 1)) from (nI_1 _)] at hl_17
              have hl_17 : lv_has ls 5 [(0, .ref y), (1, .int (nI q)), (2, .int (sGoesN (sMorn (sDays (z2 B 27 0 0) dd)) (sDaysN (z2 B 27 0 0) dd) (k + 1))), (3, .int (nI dd)), (4, .int (nI (k + 1)))] := hl_17
              exact ih _ _ _ _ rfl hH hS hl_17
          · intro k hk ih u H locs ls hu hH hS hl
            rw [hu] at hH
            obtain ⟨hIb, hnb, -⟩ := mInv_same hID (mSame_tr (sWorks_same (sDays (z2 B 27 0 0) dd) _) (sLeaves_same (sWorks (sDays (z2 B 27 0 0) dd) (nP (sDays (z2 B 27 0 0) dd))) k))
            have hk10 := mInv_P10 hID hk
            refine lv_iload hx hb dX6_pass_60 (lv_at hl 4 rfl) ?_
            refine lv_aload_n hx hb dX6_pass_62 rfl (lv_at hl 0 rfl) ?_
            refine m_num (f := 1) (v := ((sLeaves (sWorks (sDays (z2 B 27 0 0) dd) (nP (sDays (z2 B 27 0 0) dd))) k) 1 0)) (by unfold mNum; decide) hx hb hts hi6 hown hA hH (hts (.fieldLink RX6 87 "ParoleCardsModel" "people" "I") (by decide +kernel)) rfl dX6_pass_63 ?_
            refine lv_icmp_ge (tgt := 119) hx hb dX6_pass_66 (by decide) (fun c_18 => absurd c_18 (by rw [hIb.1.2, hnb]; have := hID.1.1; exact nI_ge hk (by omega))) (fun c_18 => ?_)
            refine lv_aload_n hx hb dX6_pass_69 rfl (lv_at hl 0 rfl) ?_
            refine m_arr (f := 11) (by unfold mArr; decide) hx hb hts hi6 hown hA hH (hts (.fieldLink RX6 38 "ParoleCardsModel" "on" "[I") (by decide +kernel)) rfl dX6_pass_70 ?_
            refine lv_iload hx hb dX6_pass_73 (lv_at hl 4 rfl) ?_
            refine lv_aload_n hx hb dX6_pass_75 rfl (lv_at hl 0 rfl) ?_
            refine m_arr (f := 11) (by unfold mArr; decide) hx hb hts hi6 hown hA hH (hts (.fieldLink RX6 38 "ParoleCardsModel" "on" "[I") (by decide +kernel)) rfl dX6_pass_76 ?_
            refine lv_iload hx hb dX6_pass_79 (lv_at hl 4 rfl) ?_
            refine m_iald (f := 11) (v := ((sLeaves (sWorks (sDays (z2 B 27 0 0) dd) (nP (sDays (z2 B 27 0 0) dd))) k) 11 k)) (by unfold mArr; decide) rfl hx hb hA hH k rfl (by rw [show mLen 11 = 10 from rfl]; omega) rfl dX6_pass_81 ?_
            refine lv_iconst (v := (-1)) hx hb dX6_pass_82 (by decide) ?_
            refine lv_icmp_eq (tgt := 105) hx hb dX6_pass_83 (by decide) (fun c_19 => ?_) (fun c_19 => ?_)
            · refine lv_aload_n hx hb dX6_pass_105 rfl (lv_at hl 0 rfl) ?_
              refine m_arr (f := 11) (by unfold mArr; decide) hx hb hts hi6 hown hA hH (hts (.fieldLink RX6 38 "ParoleCardsModel" "on" "[I") (by decide +kernel)) rfl dX6_pass_106 ?_
              refine lv_iload hx hb dX6_pass_109 (lv_at hl 4 rfl) ?_
              refine m_iald (f := 11) (v := ((sLeaves (sWorks (sDays (z2 B 27 0 0) dd) (nP (sDays (z2 B 27 0 0) dd))) k) 11 k)) (by unfold mArr; decide) rfl hx hb hA hH k rfl (by rw [show mLen 11 = 10 from rfl]; omega) rfl dX6_pass_111 ?_
              refine m_iast (f := 11) (by unfold mArr; decide) rfl hx hb hA hH hS k rfl (by rw [show mLen 11 = 10 from rfl]; omega) dX6_pass_112 (fun H locs hH hS => ?_)
              refine lv_iinc (v := ((nI k) + 1)) (lv' := [(4, .int ((nI k) + 1)), (0, .ref y), (1, .int (nI q)), (2, .int (sDaysN (z2 B 27 0 0) dd)), (3, .int (nI dd))]) hx hb dX6_pass_113 hl (k := 4) rfl rfl (by decide) rfl (fun ls hl => ?_)
              refine lv_goto (tgt := 60) hx hb dX6_pass_116 (by decide) ?_
              have hl_20 : lv_has ls 5 [(0, .ref y), (1, .int (nI q)), (2, .int (sDaysN (z2 B 27 0 0) dd)), (3, .int (nI dd)), (4, .int ((nI k) + 1))] := lv_sub hl [1, 2, 3, 4, 0] rfl
              rw [show (((nI k) + 1) : Int32) = (nI (k + 1)) from (nI_1 _)] at hl_20
              have hl_20 : lv_has ls 5 [(0, .ref y), (1, .int (nI q)), (2, .int (sDaysN (z2 B 27 0 0) dd)), (3, .int (nI dd)), (4, .int (nI (k + 1)))] := hl_20
              exact ih _ _ _ _ (by show _ = sLeave (sLeaves (sWorks (sDays (z2 B 27 0 0) dd) (nP (sDays (z2 B 27 0 0) dd))) k) k; simp [sLeave, c_19]) hH hS hl_20
            · refine lv_aload_n hx hb dX6_pass_86 rfl (lv_at hl 0 rfl) ?_
              refine m_arr (f := 25) (by unfold mArr; decide) hx hb hts hi6 hown hA hH (hts (.fieldLink RX6 77 "ParoleCardsModel" "left" "[I") (by decide +kernel)) rfl dX6_pass_87 ?_
              refine lv_aload_n hx hb dX6_pass_90 rfl (lv_at hl 0 rfl) ?_
              refine m_arr (f := 11) (by unfold mArr; decide) hx hb hts hi6 hown hA hH (hts (.fieldLink RX6 38 "ParoleCardsModel" "on" "[I") (by decide +kernel)) rfl dX6_pass_91 ?_
              refine lv_iload hx hb dX6_pass_94 (lv_at hl 4 rfl) ?_
              refine m_iald (f := 11) (v := ((sLeaves (sWorks (sDays (z2 B 27 0 0) dd) (nP (sDays (z2 B 27 0 0) dd))) k) 11 k)) (by unfold mArr; decide) rfl hx hb hA hH k rfl (by rw [show mLen 11 = 10 from rfl]; omega) rfl dX6_pass_96 ?_
              refine m_iald (f := 25) (v := ((sLeaves (sWorks (sDays (z2 B 27 0 0) dd) (nP (sDays (z2 B 27 0 0) dd))) k) 25 (ox (sLeaves (sWorks (sDays (z2 B 27 0 0) dd) (nP (sDays (z2 B 27 0 0) dd))) k) k))) (by unfold mArr; decide) rfl hx hb hA hH (ox (sLeaves (sWorks (sDays (z2 B 27 0 0) dd) (nP (sDays (z2 B 27 0 0) dd))) k) k) ((mInv_ox hIb (by rw [hnb]; exact hk)).resolve_left c_19).1 ((mInv_ox hIb (by rw [hnb]; exact hk)).resolve_left c_19).2 rfl dX6_pass_97 ?_
              refine lv_if_ne (tgt := 105) hx hb dX6_pass_98 (by decide) (fun c_21 => ?_) (fun c_21 => ?_)
              · refine lv_aload_n hx hb dX6_pass_105 rfl (lv_at hl 0 rfl) ?_
                refine m_arr (f := 11) (by unfold mArr; decide) hx hb hts hi6 hown hA hH (hts (.fieldLink RX6 38 "ParoleCardsModel" "on" "[I") (by decide +kernel)) rfl dX6_pass_106 ?_
                refine lv_iload hx hb dX6_pass_109 (lv_at hl 4 rfl) ?_
                refine m_iald (f := 11) (v := ((sLeaves (sWorks (sDays (z2 B 27 0 0) dd) (nP (sDays (z2 B 27 0 0) dd))) k) 11 k)) (by unfold mArr; decide) rfl hx hb hA hH k rfl (by rw [show mLen 11 = 10 from rfl]; omega) rfl dX6_pass_111 ?_
                refine m_iast (f := 11) (by unfold mArr; decide) rfl hx hb hA hH hS k rfl (by rw [show mLen 11 = 10 from rfl]; omega) dX6_pass_112 (fun H locs hH hS => ?_)
                refine lv_iinc (v := ((nI k) + 1)) (lv' := [(4, .int ((nI k) + 1)), (0, .ref y), (1, .int (nI q)), (2, .int (sDaysN (z2 B 27 0 0) dd)), (3, .int (nI dd))]) hx hb dX6_pass_113 hl (k := 4) rfl rfl (by decide) rfl (fun ls hl => ?_)
                refine lv_goto (tgt := 60) hx hb dX6_pass_116 (by decide) ?_
                have hl_22 : lv_has ls 5 [(0, .ref y), (1, .int (nI q)), (2, .int (sDaysN (z2 B 27 0 0) dd)), (3, .int (nI dd)), (4, .int ((nI k) + 1))] := lv_sub hl [1, 2, 3, 4, 0] rfl
                rw [show (((nI k) + 1) : Int32) = (nI (k + 1)) from (nI_1 _)] at hl_22
                have hl_22 : lv_has ls 5 [(0, .ref y), (1, .int (nI q)), (2, .int (sDaysN (z2 B 27 0 0) dd)), (3, .int (nI dd)), (4, .int (nI (k + 1)))] := hl_22
                exact ih _ _ _ _ (by show _ = sLeave (sLeaves (sWorks (sDays (z2 B 27 0 0) dd) (nP (sDays (z2 B 27 0 0) dd))) k) k; simp [sLeave, c_19, c_21]) hH hS hl_22
              · refine lv_iconst (v := (-1)) hx hb dX6_pass_101 (by decide) ?_
                refine lv_goto (tgt := 112) hx hb dX6_pass_102 (by decide) ?_
                refine m_iast (f := 11) (by unfold mArr; decide) rfl hx hb hA hH hS k rfl (by rw [show mLen 11 = 10 from rfl]; omega) dX6_pass_112 (fun H locs hH hS => ?_)
                refine lv_iinc (v := ((nI k) + 1)) (lv' := [(4, .int ((nI k) + 1)), (0, .ref y), (1, .int (nI q)), (2, .int (sDaysN (z2 B 27 0 0) dd)), (3, .int (nI dd))]) hx hb dX6_pass_113 hl (k := 4) rfl rfl (by decide) rfl (fun ls hl => ?_)
                refine lv_goto (tgt := 60) hx hb dX6_pass_116 (by decide) ?_
                have hl_23 : lv_has ls 5 [(0, .ref y), (1, .int (nI q)), (2, .int (sDaysN (z2 B 27 0 0) dd)), (3, .int (nI dd)), (4, .int ((nI k) + 1))] := lv_sub hl [1, 2, 3, 4, 0] rfl
                rw [show (((nI k) + 1) : Int32) = (nI (k + 1)) from (nI_1 _)] at hl_23
                have hl_23 : lv_has ls 5 [(0, .ref y), (1, .int (nI q)), (2, .int (sDaysN (z2 B 27 0 0) dd)), (3, .int (nI dd)), (4, .int (nI (k + 1)))] := hl_23
                exact ih _ _ _ _ (by show _ = sLeave (sLeaves (sWorks (sDays (z2 B 27 0 0) dd) (nP (sDays (z2 B 27 0 0) dd))) k) k; simp [sLeave, c_19, c_21]) hH hS hl_23
        · intro k hk ih u H locs ls hu hH hS hl
          rw [hu] at hH
          obtain ⟨hIa, hna, -⟩ := mInv_same hID (sWorks_same (sDays (z2 B 27 0 0) dd) k)
          have hk10 := mInv_P10 hID hk
          refine lv_iload hx hb dX6_pass_36 (lv_at hl 4 rfl) ?_
          refine lv_aload_n hx hb dX6_pass_38 rfl (lv_at hl 0 rfl) ?_
          refine m_num (f := 1) (v := ((sWorks (sDays (z2 B 27 0 0) dd) k) 1 0)) (by unfold mNum; decide) hx hb hts hi6 hown hA hH (hts (.fieldLink RX6 87 "ParoleCardsModel" "people" "I") (by decide +kernel)) rfl dX6_pass_39 ?_
          refine lv_icmp_ge (tgt := 57) hx hb dX6_pass_42 (by decide) (fun c_24 => absurd c_24 (by rw [hIa.1.2, hna]; have := hID.1.1; exact nI_ge hk (by omega))) (fun c_24 => ?_)
          refine lv_aload_n hx hb dX6_pass_45 rfl (lv_at hl 0 rfl) ?_
          refine lv_iload hx hb dX6_pass_46 (lv_at hl 4 rfl) ?_
          refine z_callv (va_runV (As := [.int (nI k)]) (rest := []) ⟨hx, hb, hml, hown, hts⟩ (c6_works l D cy base w0 y r (sWorks (sDays (z2 B 27 0 0) dd) k) k (by omega) (mInv_ox hIa (by rw [hna]; exact hk))) (cwV 1 hts gX6_pass_X6_works rfl rfl rfl (by decide +kernel) ⟨Nat.le_of_ble_eq_true rfl, Nat.le_of_ble_eq_true rfl⟩) (z_preV hA hS hH (m_recv hA hH)) rfl rfl hl.1 rfl (lv_room (Nat.le_of_ble_eq_true rfl)) dX6_pass_48 ⟨Nat.le_of_ble_eq_true rfl, Nat.le_of_ble_eq_true rfl⟩) hS (fun u_k_25 H locs hw_k_25 hH hz_k_25 hS => ?_)
          have hu_k_25 := hw_k_25
          rw [hu_k_25] at hH
          refine lv_iinc (v := ((nI k) + 1)) (lv' := [(4, .int ((nI k) + 1)), (0, .ref y), (1, .int (nI q)), (2, .int (sDaysN (z2 B 27 0 0) dd)), (3, .int (nI dd))]) hx hb dX6_pass_51 hl (k := 4) rfl rfl (by decide) rfl (fun ls hl => ?_)
          refine lv_goto (tgt := 36) hx hb dX6_pass_54 (by decide) ?_
          have hl_26 : lv_has ls 5 [(0, .ref y), (1, .int (nI q)), (2, .int (sDaysN (z2 B 27 0 0) dd)), (3, .int (nI dd)), (4, .int ((nI k) + 1))] := lv_sub hl [1, 2, 3, 4, 0] rfl
          rw [show (((nI k) + 1) : Int32) = (nI (k + 1)) from (nI_1 _)] at hl_26
          have hl_26 : lv_has ls 5 [(0, .ref y), (1, .int (nI q)), (2, .int (sDaysN (z2 B 27 0 0) dd)), (3, .int (nI dd)), (4, .int (nI (k + 1)))] := hl_26
          exact ih _ _ _ _ rfl hH hS hl_26
    · rw [hu_k_1] at hH
      exact absurd (hvD.symm.trans h_k_1_0) (by decide)
  · refine lv_aload_n hx hb dX6_pass_0 rfl (lv_at hl 0 rfl) ?_
    refine lv_iload_n hx hb dX6_pass_1 rfl (lv_at hl 1 rfl) ?_
    refine lv_iconst (v := 1) hx hb dX6_pass_2 (by decide) ?_
    refine lv_bipush (v := 100) hx hb dX6_pass_3 (by decide) ?_
    refine z_calli (va_runS (As := [.int d, .int 1, .int 100]) (rest := [.ref y]) ⟨hx, hb, hml, hown, hts⟩ (c6_lies l D cy base w0 y r B d 1 100 ) (va_cwS 3 hts gX6_pass_X6_lies rfl rfl rfl (by decide +kernel) ⟨Nat.le_of_ble_eq_true rfl, Nat.le_of_ble_eq_true rfl⟩) (z_preS hA hS hH) rfl rfl hl.1 rfl (lv_room (Nat.le_of_ble_eq_true rfl)) dX6_pass_5 ⟨Nat.le_of_ble_eq_true rfl, Nat.le_of_ble_eq_true rfl⟩) hS (fun r_k_27 u_k_27 H locs hw_k_27 hH hz_k_27 hS => ?_)
    rcases hw_k_27 with ⟨h_k_27_0, rfl, hu_k_27⟩ | ⟨h_k_27_0, rfl, hu_k_27⟩
    · rw [hu_k_27] at hH
      exact absurd (hvD.symm.trans h_k_27_0) (by decide)
    · rw [hu_k_27] at hH
      refine lv_if_eq (tgt := 15) hx hb dX6_pass_8 (by decide) (fun _ => ?_) (fun c_28 => absurd c_28 (by decide))
      refine lv_iconst (v := 1) hx hb dX6_pass_15 (by decide) ?_
      refine z_calli (va_runV (As := [.int 1]) (rest := []) ⟨hx, hb, hml, hown, hts⟩ (c6_fails1 l D cy base w0 y r B  ) (cwV 1 hts gX6_pass_X6_fails rfl rfl rfl (by decide +kernel) ⟨Nat.le_of_ble_eq_true rfl, Nat.le_of_ble_eq_true rfl⟩) (z_preV hA hS hH (m_recv hA hH)) rfl rfl hl.1 rfl (lv_room (Nat.le_of_ble_eq_true rfl)) dX6_pass_16 ⟨Nat.le_of_ble_eq_true rfl, Nat.le_of_ble_eq_true rfl⟩) hS (fun r_k_29 u_k_29 H locs hw_k_29 hH hz_k_29 hS => ?_)
      rcases hw_k_29 with ⟨rfl, hu_k_29⟩
      rw [hu_k_29] at hH
      refine lv_if_eq (tgt := 24) hx hb dX6_pass_19 (by decide) (fun c_30 => absurd c_30 (by decide)) (fun _ => ?_)
      refine lv_iconst (v := 0) hx hb dX6_pass_22 (by decide) ?_
      exact z_iret hx hb hr hlocks hH hS (by
        have hc : (cd_pass B d) = 1 := by first | (simp [cd_pass, h_k_27_0, hvD]; done) | (simp_all [cd_pass]; done)
        exact Or.inr ⟨by rw [hc]; decide, by rw [hc]⟩) (by decide) (by decide) dX6_pass_23
