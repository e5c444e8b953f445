set_option maxHeartbeats 8000000 in
set_option maxRecDepth 100000 in
theorem zl_arePeople (l : Launch) (hl9 : l.stackTraces = false) (D : va_G) (cy : Nat → ClassId) (base x : Nat) (r : Nat → Nat) (n : Nat) (B A : mB) (hn : 5 ≤ n) {N : Nat} (hE : JE B A) (hY : JX N B) : Met l yL_arePeople wsL_arePeople ({ frames := 9, cells := 400, slots := 4300, locals := 159 }) (zPc D cy base (lH D cy base x r n) [.ref x, .ref (r 0), .ref (r 1), .ref (r 4)] (B, A)) (zQi base (lH D cy base x r n) (fun (r0 : Int32) (u0 : lU) => r0 = 1 ∧ u0 = (B, A))) 400 4300 (fun q => base ≤ q) := by
  refine Met.ofW (cc := cL_arePeople) (maxL := 11) (ret := (some .boolean)) (by decide) rfl ?_
  intro p e s m args below meth c s₁ B9 hml hv
  obtain ⟨rfl, hA, hH⟩ := hv
  have hx := B9.exec
  have hb := B9.bytes
  have hr := B9.returns
  have hts := atoms_spec (ws := wsL_arePeople) B9.pre
  have hown : s.vm.findClass RL = some m.cls := findClass_of_methodNamed B9.named
  have hlocks := B9.notSynchronized
  have hS : va_S (fun q : Nat => base ≤ q) s.heap s.heap [] := va_S.rf
  have hl := lv_entry ([.ref x, .ref (r 0), .ref (r 1), .ref (r 4)]) (n := 11) (Nat.le_of_ble_eq_true rfl)
  rw [lg_entry_eq]
  generalize (lg_sl ([.ref x, .ref (r 0), .ref (r 1), .ref (r 4)]) ++ List.replicate (11 - (lg_sl ([.ref x, .ref (r 0), .ref (r 1), .ref (r 4)])).length) Slot.unset).toArray = ls at hl ⊢
  have hl : lv_has ls 11 [(0, .ref x), (1, .ref (r 0)), (2, .ref (r 1)), (3, .ref (r 4))] := hl
  have hJ := lH_J hH
  have hn6 : nP B ≤ 6 := hE.1.1
  have hn8 : nO B ≤ 8 := hJ.1.2.1.1
  refine lv_aload_n hx hb dL_arePeople_0 rfl (lv_at hl 0 rfl) ?_
  refine lv_iconst (v := 0) hx hb dL_arePeople_1 (by decide) ?_
  refine lv_aload_n hx hb dL_arePeople_2 rfl (lv_at hl 3 rfl) ?_
  refine lv_iconst (v := 1) hx hb dL_arePeople_3 (by decide) ?_
  refine l_iald (f := 4) (v := (nI (nP B))) (by omega) hx hb hA hH 1 rfl (by rw [show lLen 4 = 3 from rfl]; omega) hE.1.2.2.1 dL_arePeople_4 ?_
  refine lv_iconst (v := 0) hx hb dL_arePeople_5 (by decide) ?_
  refine z_xcalli (vx_runSX (As := [.ref x, .int 0, .int (nI (nP B)), .int 0]) (rest := []) ⟨hx, hb, hml, hown, hts⟩ (za_release l hl9 D cy base x r n B A (nI (nP B)) 0 (cdP1 hJ.1 (Nat.lt_irrefl _) (by omega))) (vx_cwSW 4 hts gL_arePeople_L_asks rfl rfl rfl (by decide +kernel) ⟨Nat.le_of_ble_eq_true rfl, Nat.le_of_ble_eq_true rfl⟩) (z_preS hA hS hH) rfl rfl hl.1 rfl (lv_room (Nat.le_of_ble_eq_true rfl)) dL_arePeople_6 ⟨(by show _ ≤ (400 : Nat); omega), (by show _ ≤ (4300 : Nat); omega)⟩) hS (fun E9 ce9 q9 u9 H locs hw9 hH hz9 hS hce9 hv9 hcl9 => hw9.elim) (fun r_k_1 u_k_1 H locs hw_k_1 hH hz_k_1 hS => ?_)
  obtain ⟨rfl, hu_k_1⟩ := hw_k_1
  rw [hu_k_1] at hH
  refine lv_bipush (v := (-30)) hx hb dL_arePeople_9 (by decide) ?_
  refine lv_icmp_ne (tgt := 98) hx hb dL_arePeople_11 (by decide) (fun c_2 => absurd c_2 (by decide)) (fun _ => ?_)
  refine lv_aload_n hx hb dL_arePeople_14 rfl (lv_at hl 0 rfl) ?_
  refine lv_iconst (v := 1) hx hb dL_arePeople_15 (by decide) ?_
  refine lv_iconst (v := (-1)) hx hb dL_arePeople_16 (by decide) ?_
  refine lv_iconst (v := 0) hx hb dL_arePeople_17 (by decide) ?_
  refine z_xcalli (vx_runSX (As := [.ref x, .int 1, .int (-1), .int 0]) (rest := []) ⟨hx, hb, hml, hown, hts⟩ (za_isIn l hl9 D cy base x r n B A (-1) 0 (cdPm hJ.1)) (vx_cwSW 4 hts gL_arePeople_L_asks rfl rfl rfl (by decide +kernel) ⟨Nat.le_of_ble_eq_true rfl, Nat.le_of_ble_eq_true rfl⟩) (z_preS hA hS hH) rfl rfl hl.1 rfl (lv_room (Nat.le_of_ble_eq_true rfl)) dL_arePeople_18 ⟨(by show _ ≤ (400 : Nat); omega), (by show _ ≤ (4300 : Nat); omega)⟩) hS (fun E9 ce9 q9 u9 H locs hw9 hH hz9 hS hce9 hv9 hcl9 => hw9.elim) (fun r_k_3 u_k_3 H locs hw_k_3 hH hz_k_3 hS => ?_)
  obtain ⟨rfl, hu_k_3⟩ := hw_k_3
  rw [hu_k_3] at hH
  refine lv_bipush (v := (-30)) hx hb dL_arePeople_21 (by decide) ?_
  refine lv_icmp_ne (tgt := 98) hx hb dL_arePeople_23 (by decide) (fun c_4 => absurd c_4 (by decide)) (fun _ => ?_)
  refine lv_aload_n hx hb dL_arePeople_26 rfl (lv_at hl 0 rfl) ?_
  refine lv_iconst (v := 2) hx hb dL_arePeople_27 (by decide) ?_
  refine lv_aload_n hx hb dL_arePeople_28 rfl (lv_at hl 3 rfl) ?_
  refine lv_iconst (v := 1) hx hb dL_arePeople_29 (by decide) ?_
  refine l_iald (f := 4) (v := (nI (nP B))) (by omega) hx hb hA hH 1 rfl (by rw [show lLen 4 = 3 from rfl]; omega) hE.1.2.2.1 dL_arePeople_30 ?_
  refine lv_iconst (v := 0) hx hb dL_arePeople_31 (by decide) ?_
  refine z_xcalli (vx_runSX (As := [.ref x, .int 2, .int (nI (nP B)), .int 0]) (rest := []) ⟨hx, hb, hml, hown, hts⟩ (za_regime l hl9 D cy base x r n B A (nI (nP B)) 0 (cdP1 hJ.1 (Nat.lt_irrefl _) (by omega))) (vx_cwSW 4 hts gL_arePeople_L_asks rfl rfl rfl (by decide +kernel) ⟨Nat.le_of_ble_eq_true rfl, Nat.le_of_ble_eq_true rfl⟩) (z_preS hA hS hH) rfl rfl hl.1 rfl (lv_room (Nat.le_of_ble_eq_true rfl)) dL_arePeople_32 ⟨(by show _ ≤ (400 : Nat); omega), (by show _ ≤ (4300 : Nat); omega)⟩) hS (fun E9 ce9 q9 u9 H locs hw9 hH hz9 hS hce9 hv9 hcl9 => hw9.elim) (fun r_k_5 u_k_5 H locs hw_k_5 hH hz_k_5 hS => ?_)
  obtain ⟨rfl, hu_k_5⟩ := hw_k_5
  rw [hu_k_5] at hH
  refine lv_bipush (v := (-30)) hx hb dL_arePeople_35 (by decide) ?_
  refine lv_icmp_ne (tgt := 98) hx hb dL_arePeople_37 (by decide) (fun c_6 => absurd c_6 (by decide)) (fun _ => ?_)
  refine lv_aload_n hx hb dL_arePeople_40 rfl (lv_at hl 0 rfl) ?_
  refine lv_iconst (v := 3) hx hb dL_arePeople_41 (by decide) ?_
  refine lv_iconst (v := (-1)) hx hb dL_arePeople_42 (by decide) ?_
  refine lv_iconst (v := 0) hx hb dL_arePeople_43 (by decide) ?_
  refine z_xcalli (vx_runSX (As := [.ref x, .int 3, .int (-1), .int 0]) (rest := []) ⟨hx, hb, hml, hown, hts⟩ (za_papers l hl9 D cy base x r n B A (-1) (cdPm hJ.1)) (vx_cwSW 4 hts gL_arePeople_L_asks rfl rfl rfl (by decide +kernel) ⟨Nat.le_of_ble_eq_true rfl, Nat.le_of_ble_eq_true rfl⟩) (z_preS hA hS hH) rfl rfl hl.1 rfl (lv_room (Nat.le_of_ble_eq_true rfl)) dL_arePeople_44 ⟨(by show _ ≤ (400 : Nat); omega), (by show _ ≤ (4300 : Nat); omega)⟩) hS (fun E9 ce9 q9 u9 H locs hw9 hH hz9 hS hce9 hv9 hcl9 => hw9.elim) (fun r_k_7 u_k_7 H locs hw_k_7 hH hz_k_7 hS => ?_)
  obtain ⟨rfl, hu_k_7⟩ := hw_k_7
  rw [hu_k_7] at hH
  refine lv_bipush (v := (-30)) hx hb dL_arePeople_47 (by decide) ?_
  refine lv_icmp_ne (tgt := 98) hx hb dL_arePeople_49 (by decide) (fun c_8 => absurd c_8 (by decide)) (fun _ => ?_)
  refine lv_aload_n hx hb dL_arePeople_52 rfl (lv_at hl 0 rfl) ?_
  refine lv_iconst (v := 5) hx hb dL_arePeople_53 (by decide) ?_
  refine lv_aload_n hx hb dL_arePeople_54 rfl (lv_at hl 3 rfl) ?_
  refine lv_iconst (v := 1) hx hb dL_arePeople_55 (by decide) ?_
  refine l_iald (f := 4) (v := (nI (nP B))) (by omega) hx hb hA hH 1 rfl (by rw [show lLen 4 = 3 from rfl]; omega) hE.1.2.2.1 dL_arePeople_56 ?_
  refine lv_iconst (v := 0) hx hb dL_arePeople_57 (by decide) ?_
  refine z_xcalli (vx_runSX (As := [.ref x, .int 5, .int (nI (nP B)), .int 0]) (rest := []) ⟨hx, hb, hml, hown, hts⟩ (za_orderOf l hl9 D cy base x r n B A (nI (nP B)) 0 (cdP1 hJ.1 (Nat.lt_irrefl _) (by omega))) (vx_cwSW 4 hts gL_arePeople_L_asks rfl rfl rfl (by decide +kernel) ⟨Nat.le_of_ble_eq_true rfl, Nat.le_of_ble_eq_true rfl⟩) (z_preS hA hS hH) rfl rfl hl.1 rfl (lv_room (Nat.le_of_ble_eq_true rfl)) dL_arePeople_58 ⟨(by show _ ≤ (400 : Nat); omega), (by show _ ≤ (4300 : Nat); omega)⟩) hS (fun E9 ce9 q9 u9 H locs hw9 hH hz9 hS hce9 hv9 hcl9 => hw9.elim) (fun r_k_9 u_k_9 H locs hw_k_9 hH hz_k_9 hS => ?_)
  obtain ⟨rfl, hu_k_9⟩ := hw_k_9
  rw [hu_k_9] at hH
  refine lv_bipush (v := (-30)) hx hb dL_arePeople_61 (by decide) ?_
  refine lv_icmp_ne (tgt := 98) hx hb dL_arePeople_63 (by decide) (fun c_10 => absurd c_10 (by decide)) (fun _ => ?_)
  refine lv_aload_n hx hb dL_arePeople_66 rfl (lv_at hl 0 rfl) ?_
  refine lv_bipush (v := 8) hx hb dL_arePeople_67 (by decide) ?_
  refine lv_iconst (v := (-1)) hx hb dL_arePeople_69 (by decide) ?_
  refine lv_iconst (v := 0) hx hb dL_arePeople_70 (by decide) ?_
  refine z_xcalli (vx_runSX (As := [.ref x, .int 8, .int (-1), .int 0]) (rest := []) ⟨hx, hb, hml, hown, hts⟩ (za_limit l hl9 D cy base x r n B A (-1) 0 (cdPm hJ.1)) (vx_cwSW 4 hts gL_arePeople_L_asks rfl rfl rfl (by decide +kernel) ⟨Nat.le_of_ble_eq_true rfl, Nat.le_of_ble_eq_true rfl⟩) (z_preS hA hS hH) rfl rfl hl.1 rfl (lv_room (Nat.le_of_ble_eq_true rfl)) dL_arePeople_71 ⟨(by show _ ≤ (400 : Nat); omega), (by show _ ≤ (4300 : Nat); omega)⟩) hS (fun E9 ce9 q9 u9 H locs hw9 hH hz9 hS hce9 hv9 hcl9 => hw9.elim) (fun r_k_11 u_k_11 H locs hw_k_11 hH hz_k_11 hS => ?_)
  obtain ⟨rfl, hu_k_11⟩ := hw_k_11
  rw [hu_k_11] at hH
  refine lv_bipush (v := (-30)) hx hb dL_arePeople_74 (by decide) ?_
  refine lv_icmp_ne (tgt := 98) hx hb dL_arePeople_76 (by decide) (fun c_12 => absurd c_12 (by decide)) (fun _ => ?_)
  refine lv_aload_n hx hb dL_arePeople_79 rfl (lv_at hl 0 rfl) ?_
  refine lv_bipush (v := 9) hx hb dL_arePeople_80 (by decide) ?_
  refine lv_aload_n hx hb dL_arePeople_82 rfl (lv_at hl 3 rfl) ?_
  refine lv_iconst (v := 1) hx hb dL_arePeople_83 (by decide) ?_
  refine l_iald (f := 4) (v := (nI (nP B))) (by omega) hx hb hA hH 1 rfl (by rw [show lLen 4 = 3 from rfl]; omega) hE.1.2.2.1 dL_arePeople_84 ?_
  refine lv_iconst (v := 0) hx hb dL_arePeople_85 (by decide) ?_
  refine z_xcalli (vx_runSX (As := [.ref x, .int 9, .int (nI (nP B)), .int 0]) (rest := []) ⟨hx, hb, hml, hown, hts⟩ (za_paidOut l hl9 D cy base x r n B A (nI (nP B)) 0 (cdP1 hJ.1 (Nat.lt_irrefl _) (by omega))) (vx_cwSW 4 hts gL_arePeople_L_asks rfl rfl rfl (by decide +kernel) ⟨Nat.le_of_ble_eq_true rfl, Nat.le_of_ble_eq_true rfl⟩) (z_preS hA hS hH) rfl rfl hl.1 rfl (lv_room (Nat.le_of_ble_eq_true rfl)) dL_arePeople_86 ⟨(by show _ ≤ (400 : Nat); omega), (by show _ ≤ (4300 : Nat); omega)⟩) hS (fun E9 ce9 q9 u9 H locs hw9 hH hz9 hS hce9 hv9 hcl9 => hw9.elim) (fun r_k_13 u_k_13 H locs hw_k_13 hH hz_k_13 hS => ?_)
  obtain ⟨rfl, hu_k_13⟩ := hw_k_13
  rw [hu_k_13] at hH
  refine lv_bipush (v := (-30)) hx hb dL_arePeople_89 (by decide) ?_
  refine lv_icmp_ne (tgt := 98) hx hb dL_arePeople_91 (by decide) (fun c_14 => absurd c_14 (by decide)) (fun _ => ?_)
  refine lv_iconst (v := 1) hx hb dL_arePeople_94 (by decide) ?_
  refine lv_goto (tgt := 99) hx hb dL_arePeople_95 (by decide) ?_
  refine lv_istore (lv' := [(4, .int 1), (0, .ref x), (1, .ref (r 0)), (2, .ref (r 1)), (3, .ref (r 4))]) hx hb dL_arePeople_99 hl (by decide) rfl (fun ls hl => ?_)
  refine lv_iconst (v := 0) hx hb dL_arePeople_101 (by decide) ?_
  refine lv_istore (lv' := [(5, .int 0), (4, .int 1), (0, .ref x), (1, .ref (r 0)), (2, .ref (r 1)), (3, .ref (r 4))]) hx hb dL_arePeople_102 hl (by decide) rfl (fun ls hl => ?_)
  have hl_15 : lv_has ls 11 [(0, .ref x), (1, .ref (r 0)), (2, .ref (r 1)), (3, .ref (r 4)), (4, .int 1), (5, .int 0)] := lv_sub hl [2, 3, 4, 5, 1, 0] rfl
  have hl_15 : lv_has ls 11 [(0, .ref x), (1, .ref (r 0)), (2, .ref (r 1)), (3, .ref (r 4)), (4, .int 1), (5, .int (nI 0))] := hl_15
  refine z_forc (S := lU) (nL := 11) (nP B) (fun k u => u = (B, A)) (fun k _ => [(0, .ref x), (1, .ref (r 0)), (2, .ref (r 1)), (3, .ref (r 4)), (4, .int 1), (5, .int (nI k))]) _ 61 _ 672 (rfl) hH hS hl_15 (Nat.le_refl _) (Nat.le_refl _) ?_ ?_
  · intro u H locs ls hI hH hS hl
    subst hI
    refine lv_iload hx hb dL_arePeople_104 (lv_at hl 5 rfl) ?_
    refine lv_aload_n hx hb dL_arePeople_106 rfl (lv_at hl 3 rfl) ?_
    refine lv_iconst (v := 1) hx hb dL_arePeople_107 (by decide) ?_
    refine l_iald (f := 4) (v := (nI (nP B))) (by omega) hx hb hA hH 1 rfl (by rw [show lLen 4 = 3 from rfl]; omega) hE.1.2.2.1 dL_arePeople_108 ?_
    refine lv_icmp_ge (tgt := 405) hx hb dL_arePeople_109 (by decide) (fun _ => ?_) (fun c_16 => absurd ((nI_leI (a := nP B) (b := nP B) (by omega) (by omega)).mpr (by omega)) c_16)
    refine lv_iconst (v := 0) hx hb dL_arePeople_405 (by decide) ?_
    refine lv_istore (lv' := [(5, .int 0), (0, .ref x), (1, .ref (r 0)), (2, .ref (r 1)), (3, .ref (r 4)), (4, .int 1)]) hx hb dL_arePeople_406 hl (by decide) rfl (fun ls hl => ?_)
    have hl_17 : lv_has ls 11 [(0, .ref x), (1, .ref (r 0)), (2, .ref (r 1)), (3, .ref (r 4)), (4, .int 1), (5, .int 0)] := lv_sub hl [1, 2, 3, 4, 5, 0] rfl
    have hl_17 : lv_has ls 11 [(0, .ref x), (1, .ref (r 0)), (2, .ref (r 1)), (3, .ref (r 4)), (4, .int 1), (5, .int (nI 0))] := hl_17
    refine z_forc (S := lU) (nL := 11) (3) (fun kt u => u = (B, A)) (fun kt _ => [(0, .ref x), (1, .ref (r 0)), (2, .ref (r 1)), (3, .ref (r 4)), (4, .int 1), (5, .int (nI kt))]) _ 1 _ 6 (rfl) hH hS hl_17 (Nat.le_refl _) (Nat.le_refl _) ?_ ?_
    · intro u H locs ls hI hH hS hl
      subst hI
      refine lv_iload hx hb dL_arePeople_408 (lv_at hl 5 rfl) ?_
      refine lv_iconst (v := 3) hx hb dL_arePeople_410 (by decide) ?_
      refine lv_icmp_ge (tgt := 449) hx hb dL_arePeople_411 (by decide) (fun _ => ?_) (fun c_18 => absurd ((nI_leI (a := 3) (b := 3) (by omega) (by omega)).mpr (by omega)) c_18)
      refine lv_iconst (v := 0) hx hb dL_arePeople_449 (by decide) ?_
      refine lv_istore (lv' := [(5, .int 0), (0, .ref x), (1, .ref (r 0)), (2, .ref (r 1)), (3, .ref (r 4)), (4, .int 1)]) hx hb dL_arePeople_450 hl (by decide) rfl (fun ls hl => ?_)
      have hl_19 : lv_has ls 11 [(0, .ref x), (1, .ref (r 0)), (2, .ref (r 1)), (3, .ref (r 4)), (4, .int 1), (5, .int 0)] := lv_sub hl [1, 2, 3, 4, 5, 0] rfl
      have hl_19 : lv_has ls 11 [(0, .ref x), (1, .ref (r 0)), (2, .ref (r 1)), (3, .ref (r 4)), (4, .int 1), (5, .int (nI 0))] := hl_19
      refine z_forc (S := lU) (nL := 11) (nO B) (fun ko u => u = (B, A)) (fun ko _ => [(0, .ref x), (1, .ref (r 0)), (2, .ref (r 1)), (3, .ref (r 4)), (4, .int 1), (5, .int (nI ko))]) _ 1 _ 6 (rfl) hH hS hl_19 (Nat.le_refl _) (Nat.le_refl _) ?_ ?_
      · intro u H locs ls hI hH hS hl
        subst hI
        refine lv_iload hx hb dL_arePeople_452 (lv_at hl 5 rfl) ?_
        refine lv_aload_n hx hb dL_arePeople_454 rfl (lv_at hl 3 rfl) ?_
        refine lv_iconst (v := 2) hx hb dL_arePeople_455 (by decide) ?_
        refine l_iald (f := 4) (v := (nI (nO B))) (by omega) hx hb hA hH 2 rfl (by rw [show lLen 4 = 3 from rfl]; omega) hE.1.2.2.2 dL_arePeople_456 ?_
        refine lv_icmp_ge (tgt := 495) hx hb dL_arePeople_457 (by decide) (fun _ => ?_) (fun c_20 => absurd ((nI_leI (a := nO B) (b := nO B) (by omega) (by omega)).mpr (by omega)) c_20)
        refine lv_iload hx hb dL_arePeople_495 (lv_at hl 4 rfl) ?_
        refine lv_if_eq (tgt := 556) hx hb dL_arePeople_497 (by decide) (fun c_21 => absurd c_21 (by decide)) (fun _ => ?_)
        refine lv_aload_n hx hb dL_arePeople_500 rfl (lv_at hl 0 rfl) ?_
        refine lv_iconst (v := 4) hx hb dL_arePeople_501 (by decide) ?_
        refine lv_iconst (v := 3) hx hb dL_arePeople_502 (by decide) ?_
        refine lv_iconst (v := 0) hx hb dL_arePeople_503 (by decide) ?_
        refine z_xcalli (vx_runSX (As := [.ref x, .int 4, .int 3, .int 0]) (rest := []) ⟨hx, hb, hml, hown, hts⟩ (za_toolsOut l hl9 D cy base x r n B A 3 0 cdK3) (vx_cwSW 4 hts gL_arePeople_L_asks rfl rfl rfl (by decide +kernel) ⟨Nat.le_of_ble_eq_true rfl, Nat.le_of_ble_eq_true rfl⟩) (z_preS hA hS hH) rfl rfl hl.1 rfl (lv_room (Nat.le_of_ble_eq_true rfl)) dL_arePeople_504 ⟨(by show _ ≤ (400 : Nat); omega), (by show _ ≤ (4300 : Nat); omega)⟩) hS (fun E9 ce9 q9 u9 H locs hw9 hH hz9 hS hce9 hv9 hcl9 => hw9.elim) (fun r_k_22 u_k_22 H locs hw_k_22 hH hz_k_22 hS => ?_)
        obtain ⟨rfl, hu_k_22⟩ := hw_k_22
        rw [hu_k_22] at hH
        refine lv_bipush (v := (-30)) hx hb dL_arePeople_507 (by decide) ?_
        refine lv_icmp_ne (tgt := 556) hx hb dL_arePeople_509 (by decide) (fun c_23 => absurd c_23 (by decide)) (fun _ => ?_)
        refine lv_aload_n hx hb dL_arePeople_512 rfl (lv_at hl 0 rfl) ?_
        refine lv_iconst (v := 4) hx hb dL_arePeople_513 (by decide) ?_
        refine lv_iconst (v := (-1)) hx hb dL_arePeople_514 (by decide) ?_
        refine lv_iconst (v := 0) hx hb dL_arePeople_515 (by decide) ?_
        refine z_xcalli (vx_runSX (As := [.ref x, .int 4, .int (-1), .int 0]) (rest := []) ⟨hx, hb, hml, hown, hts⟩ (za_toolsOut l hl9 D cy base x r n B A (-1) 0 cdKm) (vx_cwSW 4 hts gL_arePeople_L_asks rfl rfl rfl (by decide +kernel) ⟨Nat.le_of_ble_eq_true rfl, Nat.le_of_ble_eq_true rfl⟩) (z_preS hA hS hH) rfl rfl hl.1 rfl (lv_room (Nat.le_of_ble_eq_true rfl)) dL_arePeople_516 ⟨(by show _ ≤ (400 : Nat); omega), (by show _ ≤ (4300 : Nat); omega)⟩) hS (fun E9 ce9 q9 u9 H locs hw9 hH hz9 hS hce9 hv9 hcl9 => hw9.elim) (fun r_k_24 u_k_24 H locs hw_k_24 hH hz_k_24 hS => ?_)
        obtain ⟨rfl, hu_k_24⟩ := hw_k_24
        rw [hu_k_24] at hH
        refine lv_bipush (v := (-30)) hx hb dL_arePeople_519 (by decide) ?_
        refine lv_icmp_ne (tgt := 556) hx hb dL_arePeople_521 (by decide) (fun c_25 => absurd c_25 (by decide)) (fun _ => ?_)
        refine lv_aload_n hx hb dL_arePeople_524 rfl (lv_at hl 0 rfl) ?_
        refine lv_bipush (v := 6) hx hb dL_arePeople_525 (by decide) ?_
        refine lv_aload_n hx hb dL_arePeople_527 rfl (lv_at hl 3 rfl) ?_
        refine lv_iconst (v := 2) hx hb dL_arePeople_528 (by decide) ?_
        refine l_iald (f := 4) (v := (nI (nO B))) (by omega) hx hb hA hH 2 rfl (by rw [show lLen 4 = 3 from rfl]; omega) hE.1.2.2.2 dL_arePeople_529 ?_
        refine lv_iconst (v := 0) hx hb dL_arePeople_530 (by decide) ?_
        refine z_xcalli (vx_runSX (As := [.ref x, .int 6, .int (nI (nO B)), .int 0]) (rest := []) ⟨hx, hb, hml, hown, hts⟩ (za_left l hl9 D cy base x r n B A (nI (nO B)) 0 (cdO1 hJ.1 (Nat.lt_irrefl _) (by omega))) (vx_cwSW 4 hts gL_arePeople_L_asks rfl rfl rfl (by decide +kernel) ⟨Nat.le_of_ble_eq_true rfl, Nat.le_of_ble_eq_true rfl⟩) (z_preS hA hS hH) rfl rfl hl.1 rfl (lv_room (Nat.le_of_ble_eq_true rfl)) dL_arePeople_531 ⟨(by show _ ≤ (400 : Nat); omega), (by show _ ≤ (4300 : Nat); omega)⟩) hS (fun E9 ce9 q9 u9 H locs hw9 hH hz9 hS hce9 hv9 hcl9 => hw9.elim) (fun r_k_26 u_k_26 H locs hw_k_26 hH hz_k_26 hS => ?_)
        obtain ⟨rfl, hu_k_26⟩ := hw_k_26
        rw [hu_k_26] at hH
        refine lv_bipush (v := (-30)) hx hb dL_arePeople_534 (by decide) ?_
        refine lv_icmp_ne (tgt := 556) hx hb dL_arePeople_536 (by decide) (fun c_27 => absurd c_27 (by decide)) (fun _ => ?_)
        refine lv_aload_n hx hb dL_arePeople_539 rfl (lv_at hl 0 rfl) ?_
        refine lv_bipush (v := 6) hx hb dL_arePeople_540 (by decide) ?_
        refine lv_iconst (v := (-1)) hx hb dL_arePeople_542 (by decide) ?_
        refine lv_iconst (v := 0) hx hb dL_arePeople_543 (by decide) ?_
        refine z_xcalli (vx_runSX (As := [.ref x, .int 6, .int (-1), .int 0]) (rest := []) ⟨hx, hb, hml, hown, hts⟩ (za_left l hl9 D cy base x r n B A (-1) 0 (cdOm hJ.1)) (vx_cwSW 4 hts gL_arePeople_L_asks rfl rfl rfl (by decide +kernel) ⟨Nat.le_of_ble_eq_true rfl, Nat.le_of_ble_eq_true rfl⟩) (z_preS hA hS hH) rfl rfl hl.1 rfl (lv_room (Nat.le_of_ble_eq_true rfl)) dL_arePeople_544 ⟨(by show _ ≤ (400 : Nat); omega), (by show _ ≤ (4300 : Nat); omega)⟩) hS (fun E9 ce9 q9 u9 H locs hw9 hH hz9 hS hce9 hv9 hcl9 => hw9.elim) (fun r_k_28 u_k_28 H locs hw_k_28 hH hz_k_28 hS => ?_)
        obtain ⟨rfl, hu_k_28⟩ := hw_k_28
        rw [hu_k_28] at hH
        refine lv_bipush (v := (-30)) hx hb dL_arePeople_547 (by decide) ?_
        refine lv_icmp_ne (tgt := 556) hx hb dL_arePeople_549 (by decide) (fun c_29 => absurd c_29 (by decide)) (fun _ => ?_)
        refine lv_iconst (v := 1) hx hb dL_arePeople_552 (by decide) ?_
        refine lv_goto (tgt := 557) hx hb dL_arePeople_553 (by decide) ?_
        exact z_zret hx hb hr hlocks hH hS rfl (⟨rfl, rfl⟩) (by omega) (by omega) dL_arePeople_557
      · intro ko hko ihko u H locs ls hI hH hS hl
        subst hI
        refine lv_iload hx hb dL_arePeople_452 (lv_at hl 5 rfl) ?_
        refine lv_aload_n hx hb dL_arePeople_454 rfl (lv_at hl 3 rfl) ?_
        refine lv_iconst (v := 2) hx hb dL_arePeople_455 (by decide) ?_
        refine l_iald (f := 4) (v := (nI (nO B))) (by omega) hx hb hA hH 2 rfl (by rw [show lLen 4 = 3 from rfl]; omega) hE.1.2.2.2 dL_arePeople_456 ?_
        refine lv_icmp_ge (tgt := 495) hx hb dL_arePeople_457 (by decide) (fun c_30 => absurd ((nI_leI (a := nO B) (b := ko) (by omega) (by omega)).mp c_30) (by omega)) (fun _ => ?_)
        refine lv_iload hx hb dL_arePeople_460 (lv_at hl 4 rfl) ?_
        refine lv_if_eq (tgt := 495) hx hb dL_arePeople_462 (by decide) (fun c_31 => absurd c_31 (by decide)) (fun _ => ?_)
        refine lv_aload_n hx hb dL_arePeople_465 rfl (lv_at hl 0 rfl) ?_
        refine lv_iload hx hb dL_arePeople_466 (lv_at hl 5 rfl) ?_
        refine z_calli (va_runV (As := [.int (nI ko)]) (rest := []) ⟨hx, hb, hml, hown, hts⟩ (cq_left l hl9 D cy base x r n B A hJ.1 ko hko) (cwV 1 hts gL_arePeople_X5_left rfl rfl rfl (by decide +kernel) ⟨Nat.le_of_ble_eq_true rfl, Nat.le_of_ble_eq_true rfl⟩) (z_preV hA hS hH (l_recv hA hH)) rfl rfl hl.1 rfl (lv_room (Nat.le_of_ble_eq_true rfl)) dL_arePeople_468 ⟨(by show _ ≤ (400 : Nat); omega), (by show _ ≤ (4300 : Nat); omega)⟩) hS (fun r_k_32 u_k_32 H locs hw_k_32 hH hz_k_32 hS => ?_)
        obtain ⟨rfl, hu_k_32⟩ := hw_k_32
        rw [hu_k_32] at hH
        refine lv_aload_n hx hb dL_arePeople_471 rfl (lv_at hl 2 rfl) ?_
        refine lv_iconst (v := 4) hx hb dL_arePeople_472 (by decide) ?_
        refine lv_iload hx hb dL_arePeople_473 (lv_at hl 5 rfl) ?_
        refine lv_imul hx hb dL_arePeople_475 ?_
        refine lv_eqi (pk_mul 4 ko) ?_
        refine lv_iconst (v := 2) hx hb dL_arePeople_476 (by decide) ?_
        refine lv_iadd hx hb dL_arePeople_477 ?_
        refine lv_eqi (nI_add (4 * ko) 2) ?_
        refine l_iald (f := 1) (v := (B 25 ko)) (by omega) hx hb hA hH (4 * ko + 2) rfl (by rw [show lLen 1 = 32 from rfl]; omega) (hE.2.2.2.2.1 ko hko).2.2.1 dL_arePeople_478 ?_
        refine lv_icmp_ne (tgt := 486) hx hb dL_arePeople_479 (by decide) (fun c9 => absurd rfl c9) (fun _ => ?_)
        refine lv_iconst (v := 1) hx hb dL_arePeople_482 (by decide) ?_
        refine lv_goto (tgt := 487) hx hb dL_arePeople_483 (by decide) ?_
        refine lv_istore (lv' := [(4, .int 1), (0, .ref x), (1, .ref (r 0)), (2, .ref (r 1)), (3, .ref (r 4)), (5, .int (nI ko))]) hx hb dL_arePeople_487 hl (by decide) rfl (fun ls hl => ?_)
        refine lv_iinc (v := ((nI ko) + 1)) (lv' := [(5, .int ((nI ko) + 1)), (4, .int 1), (0, .ref x), (1, .ref (r 0)), (2, .ref (r 1)), (3, .ref (r 4))]) hx hb dL_arePeople_489 hl (k := 5) rfl rfl (by decide) rfl (fun ls hl => ?_)
        rw [show (((nI ko) + 1) : Int32) = (nI (ko + 1)) from nI_add ko 1] at hl
        refine lv_goto (tgt := 452) hx hb dL_arePeople_492 (by decide) ?_
        have hl_33 : lv_has ls 11 [(0, .ref x), (1, .ref (r 0)), (2, .ref (r 1)), (3, .ref (r 4)), (4, .int 1), (5, .int (nI (ko + 1)))] := lv_sub hl [2, 3, 4, 5, 1, 0] rfl
        have hl_33 : lv_has ls 11 [(0, .ref x), (1, .ref (r 0)), (2, .ref (r 1)), (3, .ref (r 4)), (4, .int 1), (5, .int (nI (ko + 1)))] := hl_33
        exact ihko _ _ _ _ _ _ (rfl) hH hS hl_33 (by omega) (by omega)
    · intro kt hkt ihkt u H locs ls hI hH hS hl
      subst hI
      refine lv_iload hx hb dL_arePeople_408 (lv_at hl 5 rfl) ?_
      refine lv_iconst (v := 3) hx hb dL_arePeople_410 (by decide) ?_
      refine lv_icmp_ge (tgt := 449) hx hb dL_arePeople_411 (by decide) (fun c_34 => absurd ((nI_leI (a := 3) (b := kt) (by omega) (by omega)).mp c_34) (by omega)) (fun _ => ?_)
      refine lv_iload hx hb dL_arePeople_414 (lv_at hl 4 rfl) ?_
      refine lv_if_eq (tgt := 449) hx hb dL_arePeople_416 (by decide) (fun c_35 => absurd c_35 (by decide)) (fun _ => ?_)
      refine lv_aload_n hx hb dL_arePeople_419 rfl (lv_at hl 0 rfl) ?_
      refine lv_iload hx hb dL_arePeople_420 (lv_at hl 5 rfl) ?_
      refine z_calli (va_runV (As := [.int (nI kt)]) (rest := []) ⟨hx, hb, hml, hown, hts⟩ (cq_toolsOut l hl9 D cy base x r n B A hJ.1 kt (by omega)) (cwV 1 hts gL_arePeople_X5_toolsOut rfl rfl rfl (by decide +kernel) ⟨Nat.le_of_ble_eq_true rfl, Nat.le_of_ble_eq_true rfl⟩) (z_preV hA hS hH (l_recv hA hH)) rfl rfl hl.1 rfl (lv_room (Nat.le_of_ble_eq_true rfl)) dL_arePeople_422 ⟨(by show _ ≤ (400 : Nat); omega), (by show _ ≤ (4300 : Nat); omega)⟩) hS (fun r_k_36 u_k_36 H locs hw_k_36 hH hz_k_36 hS => ?_)
      obtain ⟨rfl, hu_k_36⟩ := hw_k_36
      rw [hu_k_36] at hH
      refine lv_aload_n hx hb dL_arePeople_425 rfl (lv_at hl 1 rfl) ?_
      refine lv_aload_n hx hb dL_arePeople_426 rfl (lv_at hl 2 rfl) ?_
      refine lv_aload_n hx hb dL_arePeople_427 rfl (lv_at hl 3 rfl) ?_
      refine lv_iload hx hb dL_arePeople_428 (lv_at hl 5 rfl) ?_
      refine z_calli (va_runS (As := [.ref (r 0), .ref (r 1), .ref (r 4), .int (nI kt)]) (rest := [.int (sOut B (nI kt) (nP B))]) ⟨hx, hb, hml, hown, hts⟩ (zl_out l hl9 D cy base x r n B A (by omega) hE (nI kt)) (va_cwS 4 hts gL_arePeople_L_out rfl rfl rfl (by decide +kernel) ⟨Nat.le_of_ble_eq_true rfl, Nat.le_of_ble_eq_true rfl⟩) (z_preS hA hS hH) rfl rfl hl.1 rfl (lv_room (Nat.le_of_ble_eq_true rfl)) dL_arePeople_430 ⟨(by show _ ≤ (400 : Nat); omega), (by show _ ≤ (4300 : Nat); omega)⟩) hS (fun r_k_37 u_k_37 H locs hw_k_37 hH hz_k_37 hS => ?_)
      obtain ⟨rfl, hu_k_37⟩ := hw_k_37
      rw [hu_k_37] at hH
      refine lv_icmp_ne (tgt := 440) hx hb dL_arePeople_433 (by decide) (fun c9 => absurd rfl c9) (fun _ => ?_)
      refine lv_iconst (v := 1) hx hb dL_arePeople_436 (by decide) ?_
      refine lv_goto (tgt := 441) hx hb dL_arePeople_437 (by decide) ?_
      refine lv_istore (lv' := [(4, .int 1), (0, .ref x), (1, .ref (r 0)), (2, .ref (r 1)), (3, .ref (r 4)), (5, .int (nI kt))]) hx hb dL_arePeople_441 hl (by decide) rfl (fun ls hl => ?_)
      refine lv_iinc (v := ((nI kt) + 1)) (lv' := [(5, .int ((nI kt) + 1)), (4, .int 1), (0, .ref x), (1, .ref (r 0)), (2, .ref (r 1)), (3, .ref (r 4))]) hx hb dL_arePeople_443 hl (k := 5) rfl rfl (by decide) rfl (fun ls hl => ?_)
      rw [show (((nI kt) + 1) : Int32) = (nI (kt + 1)) from nI_add kt 1] at hl
      refine lv_goto (tgt := 408) hx hb dL_arePeople_446 (by decide) ?_
      have hl_38 : lv_has ls 11 [(0, .ref x), (1, .ref (r 0)), (2, .ref (r 1)), (3, .ref (r 4)), (4, .int 1), (5, .int (nI (kt + 1)))] := lv_sub hl [2, 3, 4, 5, 1, 0] rfl
      have hl_38 : lv_has ls 11 [(0, .ref x), (1, .ref (r 0)), (2, .ref (r 1)), (3, .ref (r 4)), (4, .int 1), (5, .int (nI (kt + 1)))] := hl_38
      exact ihkt _ _ _ _ _ _ (rfl) hH hS hl_38 (by omega) (by omega)
  · intro k hk ihk u H locs ls hI hH hS hl
    subst hI
    refine lv_iload hx hb dL_arePeople_104 (lv_at hl 5 rfl) ?_
    refine lv_aload_n hx hb dL_arePeople_106 rfl (lv_at hl 3 rfl) ?_
    refine lv_iconst (v := 1) hx hb dL_arePeople_107 (by decide) ?_
    refine l_iald (f := 4) (v := (nI (nP B))) (by omega) hx hb hA hH 1 rfl (by rw [show lLen 4 = 3 from rfl]; omega) hE.1.2.2.1 dL_arePeople_108 ?_
    refine lv_icmp_ge (tgt := 405) hx hb dL_arePeople_109 (by decide) (fun c_39 => absurd ((nI_leI (a := nP B) (b := k) (by omega) (by omega)).mp c_39) (by omega)) (fun _ => ?_)
    refine lv_iload hx hb dL_arePeople_112 (lv_at hl 4 rfl) ?_
    refine lv_if_eq (tgt := 405) hx hb dL_arePeople_114 (by decide) (fun c_40 => absurd c_40 (by decide)) (fun _ => ?_)
    rcases (hJ.2.1.1 k hk).2.1 with h2 | h2
    · have h2n : B 2 k = 0 := h2
      refine lv_bipush (v := 10) hx hb dL_arePeople_117 (by decide) ?_
      refine lv_iload hx hb dL_arePeople_119 (lv_at hl 5 rfl) ?_
      refine lv_imul hx hb dL_arePeople_121 ?_
      refine lv_eqi (pk_mul 10 k) ?_
      refine lv_istore (lv' := [(6, .int (nI (10 * k))), (0, .ref x), (1, .ref (r 0)), (2, .ref (r 1)), (3, .ref (r 4)), (4, .int 1), (5, .int (nI k))]) hx hb dL_arePeople_122 hl (by decide) rfl (fun ls hl => ?_)
      refine lv_aload_n hx hb dL_arePeople_124 rfl (lv_at hl 1 rfl) ?_
      refine lv_iload hx hb dL_arePeople_125 (lv_at hl 6 rfl) ?_
      refine z_calli (va_runV (As := [.int (nI k)]) (rest := []) ⟨hx, hb, hml, hown, hts⟩ (cq_regime l hl9 D cy base x r n B A hJ.1 k hk) (cwV 1 hts gL_arePeople_X5_regime rfl rfl rfl (by decide +kernel) ⟨Nat.le_of_ble_eq_true rfl, Nat.le_of_ble_eq_true rfl⟩) (z_preV hA hS hH (l_recv hA hH)) rfl rfl hl.1 rfl (lv_room (Nat.le_of_ble_eq_true rfl)) dL_arePeople_127 ⟨(by show _ ≤ (400 : Nat); omega), (by show _ ≤ (4300 : Nat); omega)⟩) hS (fun r_k_41 u_k_41 H locs hw_k_41 hH hz_k_41 hS => ?_)
      obtain ⟨rfl, hu_k_41⟩ := hw_k_41
      rw [hu_k_41] at hH
      refine lv_istore (lv' := [(7, .int (B 6 k)), (6, .int (nI (10 * k))), (0, .ref x), (1, .ref (r 0)), (2, .ref (r 1)), (3, .ref (r 4)), (4, .int 1), (5, .int (nI k))]) hx hb dL_arePeople_130 hl (by decide) rfl (fun ls hl => ?_)
      refine lv_aload_n hx hb dL_arePeople_132 rfl (lv_at hl 2 rfl) ?_
      refine lv_iload hx hb dL_arePeople_133 (lv_at hl 7 rfl) ?_
      refine z_calli (va_runV (As := [.int (nI k)]) (rest := []) ⟨hx, hb, hml, hown, hts⟩ (cq_limit l hl9 D cy base x r n B A hJ.1 k hk) (cwV 1 hts gL_arePeople_X5_limit rfl rfl rfl (by decide +kernel) ⟨Nat.le_of_ble_eq_true rfl, Nat.le_of_ble_eq_true rfl⟩) (z_preV hA hS hH (l_recv hA hH)) rfl rfl hl.1 rfl (lv_room (Nat.le_of_ble_eq_true rfl)) dL_arePeople_135 ⟨(by show _ ≤ (400 : Nat); omega), (by show _ ≤ (4300 : Nat); omega)⟩) hS (fun r_k_42 u_k_42 H locs hw_k_42 hH hz_k_42 hS => ?_)
      obtain ⟨rfl, hu_k_42⟩ := hw_k_42
      rw [hu_k_42] at hH
      refine lv_istore (lv' := [(8, .int (sRest B k)), (7, .int (B 6 k)), (6, .int (nI (10 * k))), (0, .ref x), (1, .ref (r 0)), (2, .ref (r 1)), (3, .ref (r 4)), (4, .int 1), (5, .int (nI k))]) hx hb dL_arePeople_138 hl (by decide) rfl (fun ls hl => ?_)
      refine lv_aload_n hx hb dL_arePeople_140 rfl (lv_at hl 4 rfl) ?_
      refine lv_iload hx hb dL_arePeople_141 (lv_at hl 2 rfl) ?_
      refine lv_iconst (v := 4) hx hb dL_arePeople_143 (by decide) ?_
      refine lv_iadd hx hb dL_arePeople_144 ?_
      refine lv_eqi (nI_add (10 * k) 4) ?_
      refine l_iald (f := 0) (v := (B 2 k)) (by omega) hx hb hA hH (10 * k + 4) rfl (by rw [show lLen 0 = 60 from rfl]; omega) (hE.2.2.1 k (by omega)).1 dL_arePeople_145 ?_
      refine lv_iconst (v := 1) hx hb dL_arePeople_146 (by decide) ?_
      refine lv_icmp_ne (tgt := 154) hx hb dL_arePeople_147 (by decide) (fun _ => ?_) (fun c_43 => absurd c_43 (show ¬ B 2 k = 1 by rw [h2]; decide))
      refine lv_iconst (v := 0) hx hb dL_arePeople_154 (by decide) ?_
      refine lv_istore (lv' := [(9, .int 0), (8, .int (sRest B k)), (7, .int (B 6 k)), (6, .int (nI (10 * k))), (0, .ref x), (1, .ref (r 0)), (2, .ref (r 1)), (3, .ref (r 4)), (4, .int 1), (5, .int (nI k))]) hx hb dL_arePeople_155 hl (by decide) rfl (fun ls hl => ?_)
      refine lv_aload_n hx hb dL_arePeople_157 rfl (lv_at hl 4 rfl) ?_
      refine lv_iload hx hb dL_arePeople_158 (lv_at hl 9 rfl) ?_
      refine z_calli (va_runV (As := [.int (nI k)]) (rest := []) ⟨hx, hb, hml, hown, hts⟩ (cq_release l hl9 D cy base x r n B A hJ.1 k hk) (cwV 1 hts gL_arePeople_X5_release rfl rfl rfl (by decide +kernel) ⟨Nat.le_of_ble_eq_true rfl, Nat.le_of_ble_eq_true rfl⟩) (z_preV hA hS hH (l_recv hA hH)) rfl rfl hl.1 rfl (lv_room (Nat.le_of_ble_eq_true rfl)) dL_arePeople_160 ⟨(by show _ ≤ (400 : Nat); omega), (by show _ ≤ (4300 : Nat); omega)⟩) hS (fun r_k_44 u_k_44 H locs hw_k_44 hH hz_k_44 hS => ?_)
      obtain ⟨rfl, hu_k_44⟩ := hw_k_44
      rw [hu_k_44] at hH
      refine lv_aload_n hx hb dL_arePeople_163 rfl (lv_at hl 5 rfl) ?_
      refine lv_iload hx hb dL_arePeople_164 (lv_at hl 9 rfl) ?_
      refine z_calli (va_runS (As := [.ref (r 0), .int (nI k)]) (rest := [.int (sRel B k)]) ⟨hx, hb, hml, hown, hts⟩ (zl_due l hl9 D cy base x r n B A (by omega) k (by omega)) (va_cwS 2 hts gL_arePeople_L_due rfl rfl rfl (by decide +kernel) ⟨Nat.le_of_ble_eq_true rfl, Nat.le_of_ble_eq_true rfl⟩) (z_preS hA hS hH) rfl rfl hl.1 rfl (lv_room (Nat.le_of_ble_eq_true rfl)) dL_arePeople_166 ⟨(by show _ ≤ (400 : Nat); omega), (by show _ ≤ (4300 : Nat); omega)⟩) hS (fun r_k_45 u_k_45 H locs hw_k_45 hH hz_k_45 hS => ?_)
      obtain ⟨rfl, hu_k_45⟩ := hw_k_45
      rw [hu_k_45] at hH
      refine lv_eqi (show dF (A 0) k = (sRel B k) from dF_rel hE hk (hJ.2.1.1 k hk).2.1) ?_
      refine lv_icmp_ne (tgt := 358) hx hb dL_arePeople_169 (by decide) (fun c9 => absurd rfl c9) (fun _ => ?_)
      refine lv_aload_n hx hb dL_arePeople_172 rfl (lv_at hl 4 rfl) ?_
      refine lv_iload hx hb dL_arePeople_173 (lv_at hl 9 rfl) ?_
      refine z_calli (va_runV (As := [.int (nI k)]) (rest := []) ⟨hx, hb, hml, hown, hts⟩ (cq_isIn l hl9 D cy base x r n B A hJ.1 k hk) (cwV 1 hts gL_arePeople_X5_isIn rfl rfl rfl (by decide +kernel) ⟨Nat.le_of_ble_eq_true rfl, Nat.le_of_ble_eq_true rfl⟩) (z_preV hA hS hH (l_recv hA hH)) rfl rfl hl.1 rfl (lv_room (Nat.le_of_ble_eq_true rfl)) dL_arePeople_175 ⟨(by show _ ≤ (400 : Nat); omega), (by show _ ≤ (4300 : Nat); omega)⟩) hS (fun r_k_46 u_k_46 H locs hw_k_46 hH hz_k_46 hS => ?_)
      obtain ⟨rfl, hu_k_46⟩ := hw_k_46
      rw [hu_k_46] at hH
      refine lv_eqi (show (if B 2 k = 0 then (1 : Int32) else 0) = 1 from if_pos h2) ?_
      refine lv_iload hx hb dL_arePeople_178 (lv_at hl 0 rfl) ?_
      refine lv_if_ne (tgt := 187) hx hb dL_arePeople_180 (by decide) (fun c_47 => absurd c_47 (by decide)) (fun _ => ?_)
      refine lv_iconst (v := 1) hx hb dL_arePeople_183 (by decide) ?_
      refine lv_goto (tgt := 188) hx hb dL_arePeople_184 (by decide) ?_
      refine lv_icmp_ne (tgt := 358) hx hb dL_arePeople_188 (by decide) (fun c_48 => absurd c_48 (by decide)) (fun _ => ?_)
      refine lv_iload hx hb dL_arePeople_191 (lv_at hl 2 rfl) ?_
      refine lv_if_lt (tgt := 358) hx hb dL_arePeople_193 (by decide) (fun c_49 => absurd c_49 ((rg_in hJ hk).1)) (fun _ => ?_)
      refine lv_iload hx hb dL_arePeople_196 (lv_at hl 2 rfl) ?_
      refine lv_iconst (v := 3) hx hb dL_arePeople_198 (by decide) ?_
      refine lv_icmp_ge (tgt := 358) hx hb dL_arePeople_199 (by decide) (fun c_50 => absurd c_50 ((rg_in hJ hk).2)) (fun _ => ?_)
      refine lv_aload_n hx hb dL_arePeople_202 rfl (lv_at hl 4 rfl) ?_
      refine lv_iload hx hb dL_arePeople_203 (lv_at hl 9 rfl) ?_
      refine lv_iconst (v := 0) hx hb dL_arePeople_205 (by decide) ?_
      refine z_calli (va_runV (As := [.int (nI k), .int 0]) (rest := []) ⟨hx, hb, hml, hown, hts⟩ (cq_papers0 l hl9 D cy base x r n B A hJ.1 k hk) (cwV 2 hts gL_arePeople_X5_papers rfl rfl rfl (by decide +kernel) ⟨Nat.le_of_ble_eq_true rfl, Nat.le_of_ble_eq_true rfl⟩) (z_preV hA hS hH (l_recv hA hH)) rfl rfl hl.1 rfl (lv_room (Nat.le_of_ble_eq_true rfl)) dL_arePeople_206 ⟨(by show _ ≤ (400 : Nat); omega), (by show _ ≤ (4300 : Nat); omega)⟩) hS (fun r_k_51 u_k_51 H locs hw_k_51 hH hz_k_51 hS => ?_)
      obtain ⟨rfl, hu_k_51⟩ := hw_k_51
      rw [hu_k_51] at hH
      refine lv_aload_n hx hb dL_arePeople_209 rfl (lv_at hl 5 rfl) ?_
      refine lv_iload hx hb dL_arePeople_210 (lv_at hl 3 rfl) ?_
      refine lv_bipush (v := 6) hx hb dL_arePeople_212 (by decide) ?_
      refine lv_iadd hx hb dL_arePeople_214 ?_
      refine lv_eqi (nI_add (10 * k) 6) ?_
      refine l_iald (f := 0) (v := (B 7 k)) (by omega) hx hb hA hH (10 * k + 6) rfl (by rw [show lLen 0 = 60 from rfl]; omega) (hE.2.2.1 k (by omega)).2.2.1 dL_arePeople_215 ?_
      refine lv_iconst (v := 5) hx hb dL_arePeople_216 (by decide) ?_
      refine lv_idiv hx hb dL_arePeople_217 (by decide) ?_
      refine lv_aload_n hx hb dL_arePeople_218 rfl (lv_at hl 5 rfl) ?_
      refine lv_iload hx hb dL_arePeople_219 (lv_at hl 3 rfl) ?_
      refine lv_bipush (v := 7) hx hb dL_arePeople_221 (by decide) ?_
      refine lv_iadd hx hb dL_arePeople_223 ?_
      refine lv_eqi (nI_add (10 * k) 7) ?_
      refine l_iald (f := 0) (v := (B 8 k)) (by omega) hx hb hA hH (10 * k + 7) rfl (by rw [show lLen 0 = 60 from rfl]; omega) (hE.2.2.1 k (by omega)).2.2.2.1 dL_arePeople_224 ?_
      refine lv_iadd hx hb dL_arePeople_225 ?_
      refine lv_icmp_ne (tgt := 358) hx hb dL_arePeople_226 (by decide) (fun c_52 => absurd rfl c_52) (fun _ => ?_)
      refine lv_aload_n hx hb dL_arePeople_229 rfl (lv_at hl 4 rfl) ?_
      refine lv_iload hx hb dL_arePeople_230 (lv_at hl 9 rfl) ?_
      refine lv_iconst (v := 1) hx hb dL_arePeople_232 (by decide) ?_
      refine z_calli (va_runV (As := [.int (nI k), .int 1]) (rest := []) ⟨hx, hb, hml, hown, hts⟩ (cq_papers1 l hl9 D cy base x r n B A hJ.1 k hk) (cwV 2 hts gL_arePeople_X5_papers rfl rfl rfl (by decide +kernel) ⟨Nat.le_of_ble_eq_true rfl, Nat.le_of_ble_eq_true rfl⟩) (z_preV hA hS hH (l_recv hA hH)) rfl rfl hl.1 rfl (lv_room (Nat.le_of_ble_eq_true rfl)) dL_arePeople_233 ⟨(by show _ ≤ (400 : Nat); omega), (by show _ ≤ (4300 : Nat); omega)⟩) hS (fun r_k_53 u_k_53 H locs hw_k_53 hH hz_k_53 hS => ?_)
      obtain ⟨rfl, hu_k_53⟩ := hw_k_53
      rw [hu_k_53] at hH
      refine lv_aload_n hx hb dL_arePeople_236 rfl (lv_at hl 5 rfl) ?_
      refine lv_iload hx hb dL_arePeople_237 (lv_at hl 3 rfl) ?_
      refine lv_bipush (v := 8) hx hb dL_arePeople_239 (by decide) ?_
      refine lv_iadd hx hb dL_arePeople_241 ?_
      refine lv_eqi (nI_add (10 * k) 8) ?_
      refine l_iald (f := 0) (v := (sLoss B k)) (by omega) hx hb hA hH (10 * k + 8) rfl (by rw [show lLen 0 = 60 from rfl]; omega) (hE.2.2.1 k (by omega)).2.2.2.2.1 dL_arePeople_242 ?_
      refine lv_icmp_ne (tgt := 358) hx hb dL_arePeople_243 (by decide) (fun c9 => absurd rfl c9) (fun _ => ?_)
      refine lv_aload_n hx hb dL_arePeople_246 rfl (lv_at hl 4 rfl) ?_
      refine lv_iload hx hb dL_arePeople_247 (lv_at hl 9 rfl) ?_
      refine z_calli (va_runV (As := [.int (nI k)]) (rest := []) ⟨hx, hb, hml, hown, hts⟩ (cq_orderOf l hl9 D cy base x r n B A hJ.1 k hk) (cwV 1 hts gL_arePeople_X5_orderOf rfl rfl rfl (by decide +kernel) ⟨Nat.le_of_ble_eq_true rfl, Nat.le_of_ble_eq_true rfl⟩) (z_preV hA hS hH (l_recv hA hH)) rfl rfl hl.1 rfl (lv_room (Nat.le_of_ble_eq_true rfl)) dL_arePeople_249 ⟨(by show _ ≤ (400 : Nat); omega), (by show _ ≤ (4300 : Nat); omega)⟩) hS (fun r_k_54 u_k_54 H locs hw_k_54 hH hz_k_54 hS => ?_)
      obtain ⟨rfl, hu_k_54⟩ := hw_k_54
      rw [hu_k_54] at hH
      refine lv_aload_n hx hb dL_arePeople_252 rfl (lv_at hl 5 rfl) ?_
      refine lv_iload hx hb dL_arePeople_253 (lv_at hl 3 rfl) ?_
      refine lv_iconst (v := 3) hx hb dL_arePeople_255 (by decide) ?_
      refine lv_iadd hx hb dL_arePeople_256 ?_
      refine lv_eqi (nI_add (10 * k) 3) ?_
      refine l_iald (f := 0) (v := (B 11 k)) (by omega) hx hb hA hH (10 * k + 3) rfl (by rw [show lLen 0 = 60 from rfl]; omega) (hE.2.1 k hk).2.2.2 dL_arePeople_257 ?_
      refine lv_icmp_ne (tgt := 358) hx hb dL_arePeople_258 (by decide) (fun c9 => absurd rfl c9) (fun _ => ?_)
      refine lv_iload hx hb dL_arePeople_261 (lv_at hl 1 rfl) ?_
      refine lv_if_lt (tgt := 358) hx hb dL_arePeople_263 (by decide) (fun c_55 => absurd c_55 ((rest_rng hJ hk).1)) (fun _ => ?_)
      refine lv_iload hx hb dL_arePeople_266 (lv_at hl 1 rfl) ?_
      refine lv_bipush (v := 20) hx hb dL_arePeople_268 (by decide) ?_
      refine lv_iload hx hb dL_arePeople_270 (lv_at hl 2 rfl) ?_
      refine lv_imul hx hb dL_arePeople_272 ?_
      refine lv_bipush (v := 10) hx hb dL_arePeople_273 (by decide) ?_
      refine lv_iadd hx hb dL_arePeople_275 ?_
      refine lv_icmp_gt (tgt := 358) hx hb dL_arePeople_276 (by decide) (fun c_56 => absurd c_56 ((rest_rng hJ hk).2)) (fun _ => ?_)
      refine lv_iload hx hb dL_arePeople_279 (lv_at hl 0 rfl) ?_
      refine lv_if_eq (tgt := 289) hx hb dL_arePeople_281 (by decide) (fun _ => ?_) (fun c_57 => absurd c_57 (by decide))
      refine lv_aload_n hx hb dL_arePeople_289 rfl (lv_at hl 4 rfl) ?_
      refine lv_bipush (v := 7) hx hb dL_arePeople_290 (by decide) ?_
      refine lv_iload hx hb dL_arePeople_292 (lv_at hl 9 rfl) ?_
      refine lv_iconst (v := 4) hx hb dL_arePeople_294 (by decide) ?_
      refine z_xcalli (vx_runSX (As := [.ref x, .int 7, .int (nI k), .int 4]) (rest := []) ⟨hx, hb, hml, hown, hts⟩ (za_account l hl9 D cy base x r n B A (nI k) 4 cdA4) (vx_cwSW 4 hts gL_arePeople_L_asks rfl rfl rfl (by decide +kernel) ⟨Nat.le_of_ble_eq_true rfl, Nat.le_of_ble_eq_true rfl⟩) (z_preS hA hS hH) rfl rfl hl.1 rfl (lv_room (Nat.le_of_ble_eq_true rfl)) dL_arePeople_295 ⟨(by show _ ≤ (400 : Nat); omega), (by show _ ≤ (4300 : Nat); omega)⟩) hS (fun E9 ce9 q9 u9 H locs hw9 hH hz9 hS hce9 hv9 hcl9 => hw9.elim) (fun r_k_58 u_k_58 H locs hw_k_58 hH hz_k_58 hS => ?_)
      obtain ⟨rfl, hu_k_58⟩ := hw_k_58
      rw [hu_k_58] at hH
      refine lv_bipush (v := (-30)) hx hb dL_arePeople_298 (by decide) ?_
      refine lv_icmp_ne (tgt := 358) hx hb dL_arePeople_300 (by decide) (fun c_59 => absurd c_59 (by decide)) (fun _ => ?_)
      refine lv_aload_n hx hb dL_arePeople_303 rfl (lv_at hl 4 rfl) ?_
      refine lv_bipush (v := 7) hx hb dL_arePeople_304 (by decide) ?_
      refine lv_iload hx hb dL_arePeople_306 (lv_at hl 9 rfl) ?_
      refine lv_iconst (v := (-1)) hx hb dL_arePeople_308 (by decide) ?_
      refine z_xcalli (vx_runSX (As := [.ref x, .int 7, .int (nI k), .int (-1)]) (rest := []) ⟨hx, hb, hml, hown, hts⟩ (za_account l hl9 D cy base x r n B A (nI k) (-1) cdAm) (vx_cwSW 4 hts gL_arePeople_L_asks rfl rfl rfl (by decide +kernel) ⟨Nat.le_of_ble_eq_true rfl, Nat.le_of_ble_eq_true rfl⟩) (z_preS hA hS hH) rfl rfl hl.1 rfl (lv_room (Nat.le_of_ble_eq_true rfl)) dL_arePeople_309 ⟨(by show _ ≤ (400 : Nat); omega), (by show _ ≤ (4300 : Nat); omega)⟩) hS (fun E9 ce9 q9 u9 H locs hw9 hH hz9 hS hce9 hv9 hcl9 => hw9.elim) (fun r_k_60 u_k_60 H locs hw_k_60 hH hz_k_60 hS => ?_)
      obtain ⟨rfl, hu_k_60⟩ := hw_k_60
      rw [hu_k_60] at hH
      refine lv_bipush (v := (-30)) hx hb dL_arePeople_312 (by decide) ?_
      refine lv_icmp_ne (tgt := 358) hx hb dL_arePeople_314 (by decide) (fun c_61 => absurd c_61 (by decide)) (fun _ => ?_)
      refine lv_iload hx hb dL_arePeople_317 (lv_at hl 0 rfl) ?_
      refine lv_if_ne (tgt := 331) hx hb dL_arePeople_319 (by decide) (fun c_62 => absurd c_62 (by decide)) (fun _ => ?_)
      refine lv_aload_n hx hb dL_arePeople_322 rfl (lv_at hl 4 rfl) ?_
      refine lv_iload hx hb dL_arePeople_323 (lv_at hl 9 rfl) ?_
      refine z_calli (va_runV (As := [.int (nI k)]) (rest := []) ⟨hx, hb, hml, hown, hts⟩ (cq_paidOut l hl9 D cy base x r n B A hJ.1 k hk) (cwV 1 hts gL_arePeople_X5_paidOut rfl rfl rfl (by decide +kernel) ⟨Nat.le_of_ble_eq_true rfl, Nat.le_of_ble_eq_true rfl⟩) (z_preV hA hS hH (l_recv hA hH)) rfl rfl hl.1 rfl (lv_room (Nat.le_of_ble_eq_true rfl)) dL_arePeople_325 ⟨(by show _ ≤ (400 : Nat); omega), (by show _ ≤ (4300 : Nat); omega)⟩) hS (fun r_k_63 u_k_63 H locs hw_k_63 hH hz_k_63 hS => ?_)
      obtain ⟨rfl, hu_k_63⟩ := hw_k_63
      rw [hu_k_63] at hH
      refine lv_if_ne (tgt := 358) hx hb dL_arePeople_328 (by decide) (fun c_64 => absurd ((hY.2 k hk).1 h2) c_64) (fun _ => ?_)
      refine lv_iload hx hb dL_arePeople_331 (lv_at hl 0 rfl) ?_
      refine lv_if_eq (tgt := 354) hx hb dL_arePeople_333 (by decide) (fun _ => ?_) (fun c_65 => absurd c_65 (by decide))
      refine lv_iconst (v := 1) hx hb dL_arePeople_354 (by decide) ?_
      refine lv_goto (tgt := 359) hx hb dL_arePeople_355 (by decide) ?_
      refine lv_istore (lv' := [(4, .int 1), (9, .int 0), (8, .int (sRest B k)), (7, .int (B 6 k)), (6, .int (nI (10 * k))), (0, .ref x), (1, .ref (r 0)), (2, .ref (r 1)), (3, .ref (r 4)), (5, .int (nI k))]) hx hb dL_arePeople_359 hl (by decide) rfl (fun ls hl => ?_)
      refine lv_iconst (v := 0) hx hb dL_arePeople_361 (by decide) ?_
      refine lv_istore (lv' := [(10, .int 0), (4, .int 1), (9, .int 0), (8, .int (sRest B k)), (7, .int (B 6 k)), (6, .int (nI (10 * k))), (0, .ref x), (1, .ref (r 0)), (2, .ref (r 1)), (3, .ref (r 4)), (5, .int (nI k))]) hx hb dL_arePeople_362 hl (by decide) rfl (fun ls hl => ?_)
      have hl_66 : lv_has ls 11 [(0, .ref x), (1, .ref (r 0)), (2, .ref (r 1)), (3, .ref (r 4)), (4, .int 1), (5, .int (nI k)), (10, .int 0)] := lv_sub hl [6, 7, 8, 9, 1, 10, 0] rfl
      have hl_66 : lv_has ls 11 [(0, .ref x), (1, .ref (r 0)), (2, .ref (r 1)), (3, .ref (r 4)), (4, .int 1), (5, .int (nI k)), (10, .int (nI 0))] := hl_66
      refine z_forc (S := lU) (nL := 11) (4) (fun j u => u = (B, A)) (fun j _ => [(0, .ref x), (1, .ref (r 0)), (2, .ref (r 1)), (3, .ref (r 4)), (4, .int 1), (5, .int (nI k)), (10, .int (nI j))]) _ 6 _ 70 (rfl) hH hS hl_66 (Nat.le_refl _) (Nat.le_refl _) ?_ ?_
      · intro u H locs ls hI hH hS hl
        subst hI
        refine lv_iload hx hb dL_arePeople_364 (lv_at hl 6 rfl) ?_
        refine lv_iconst (v := 4) hx hb dL_arePeople_366 (by decide) ?_
        refine lv_icmp_ge (tgt := 399) hx hb dL_arePeople_367 (by decide) (fun _ => ?_) (fun c_67 => absurd ((nI_leI (a := 4) (b := 4) (by omega) (by omega)).mpr (by omega)) c_67)
        refine lv_iinc (v := ((nI k) + 1)) (lv' := [(5, .int ((nI k) + 1)), (0, .ref x), (1, .ref (r 0)), (2, .ref (r 1)), (3, .ref (r 4)), (4, .int 1), (10, .int (nI 4))]) hx hb dL_arePeople_399 hl (k := 5) rfl rfl (by decide) rfl (fun ls hl => ?_)
        rw [show (((nI k) + 1) : Int32) = (nI (k + 1)) from nI_add k 1] at hl
        refine lv_goto (tgt := 104) hx hb dL_arePeople_402 (by decide) ?_
        have hl_68 : lv_has ls 11 [(0, .ref x), (1, .ref (r 0)), (2, .ref (r 1)), (3, .ref (r 4)), (4, .int 1), (5, .int (nI (k + 1)))] := lv_sub hl [1, 2, 3, 4, 5, 0] rfl
        have hl_68 : lv_has ls 11 [(0, .ref x), (1, .ref (r 0)), (2, .ref (r 1)), (3, .ref (r 4)), (4, .int 1), (5, .int (nI (k + 1)))] := hl_68
        exact ihk _ _ _ _ _ _ (rfl) hH hS hl_68 (by omega) (by omega)
      · intro j hj ihj u H locs ls hI hH hS hl
        subst hI
        refine lv_iload hx hb dL_arePeople_364 (lv_at hl 6 rfl) ?_
        refine lv_iconst (v := 4) hx hb dL_arePeople_366 (by decide) ?_
        refine lv_icmp_ge (tgt := 399) hx hb dL_arePeople_367 (by decide) (fun c_69 => absurd ((nI_leI (a := 4) (b := j) (by omega) (by omega)).mp c_69) (by omega)) (fun _ => ?_)
        refine lv_iload hx hb dL_arePeople_370 (lv_at hl 4 rfl) ?_
        refine lv_if_eq (tgt := 399) hx hb dL_arePeople_372 (by decide) (fun c_70 => absurd c_70 (by decide)) (fun _ => ?_)
        refine lv_aload_n hx hb dL_arePeople_375 rfl (lv_at hl 0 rfl) ?_
        refine lv_iload hx hb dL_arePeople_376 (lv_at hl 5 rfl) ?_
        refine lv_iload hx hb dL_arePeople_378 (lv_at hl 6 rfl) ?_
        refine z_calli (va_runV (As := [.int (nI k), .int (nI j)]) (rest := []) ⟨hx, hb, hml, hown, hts⟩ (cq_account l hl9 D cy base x r n B A hJ.1 k j hk (by omega)) (cwV 2 hts gL_arePeople_X5_account rfl rfl rfl (by decide +kernel) ⟨Nat.le_of_ble_eq_true rfl, Nat.le_of_ble_eq_true rfl⟩) (z_preV hA hS hH (l_recv hA hH)) rfl rfl hl.1 rfl (lv_room (Nat.le_of_ble_eq_true rfl)) dL_arePeople_380 ⟨(by show _ ≤ (400 : Nat); omega), (by show _ ≤ (4300 : Nat); omega)⟩) hS (fun r_k_71 u_k_71 H locs hw_k_71 hH hz_k_71 hS => ?_)
        obtain ⟨rfl, hu_k_71⟩ := hw_k_71
        rw [hu_k_71] at hH
        refine lv_if_lt (tgt := 390) hx hb dL_arePeople_383 (by decide) (fun c_72 => absurd c_72 (acc_nn hY hk hj)) (fun _ => ?_)
        refine lv_iconst (v := 1) hx hb dL_arePeople_386 (by decide) ?_
        refine lv_goto (tgt := 391) hx hb dL_arePeople_387 (by decide) ?_
        refine lv_istore (lv' := [(4, .int 1), (0, .ref x), (1, .ref (r 0)), (2, .ref (r 1)), (3, .ref (r 4)), (5, .int (nI k)), (10, .int (nI j))]) hx hb dL_arePeople_391 hl (by decide) rfl (fun ls hl => ?_)
        refine lv_iinc (v := ((nI j) + 1)) (lv' := [(10, .int ((nI j) + 1)), (4, .int 1), (0, .ref x), (1, .ref (r 0)), (2, .ref (r 1)), (3, .ref (r 4)), (5, .int (nI k))]) hx hb dL_arePeople_393 hl (k := 6) rfl rfl (by decide) rfl (fun ls hl => ?_)
        rw [show (((nI j) + 1) : Int32) = (nI (j + 1)) from nI_add j 1] at hl
        refine lv_goto (tgt := 364) hx hb dL_arePeople_396 (by decide) ?_
        have hl_73 : lv_has ls 11 [(0, .ref x), (1, .ref (r 0)), (2, .ref (r 1)), (3, .ref (r 4)), (4, .int 1), (5, .int (nI k)), (10, .int (nI (j + 1)))] := lv_sub hl [2, 3, 4, 5, 1, 6, 0] rfl
        have hl_73 : lv_has ls 11 [(0, .ref x), (1, .ref (r 0)), (2, .ref (r 1)), (3, .ref (r 4)), (4, .int 1), (5, .int (nI k)), (10, .int (nI (j + 1)))] := hl_73
        exact ihj _ _ _ _ _ _ (rfl) hH hS hl_73 (by omega) (by omega)
    · have h2n : ¬ B 2 k = 0 := by rw [h2]; decide
      refine lv_bipush (v := 10) hx hb dL_arePeople_117 (by decide) ?_
      refine lv_iload hx hb dL_arePeople_119 (lv_at hl 5 rfl) ?_
      refine lv_imul hx hb dL_arePeople_121 ?_
      refine lv_eqi (pk_mul 10 k) ?_
      refine lv_istore (lv' := [(6, .int (nI (10 * k))), (0, .ref x), (1, .ref (r 0)), (2, .ref (r 1)), (3, .ref (r 4)), (4, .int 1), (5, .int (nI k))]) hx hb dL_arePeople_122 hl (by decide) rfl (fun ls hl => ?_)
      refine lv_aload_n hx hb dL_arePeople_124 rfl (lv_at hl 1 rfl) ?_
      refine lv_iload hx hb dL_arePeople_125 (lv_at hl 6 rfl) ?_
      refine z_calli (va_runV (As := [.int (nI k)]) (rest := []) ⟨hx, hb, hml, hown, hts⟩ (cq_regime l hl9 D cy base x r n B A hJ.1 k hk) (cwV 1 hts gL_arePeople_X5_regime rfl rfl rfl (by decide +kernel) ⟨Nat.le_of_ble_eq_true rfl, Nat.le_of_ble_eq_true rfl⟩) (z_preV hA hS hH (l_recv hA hH)) rfl rfl hl.1 rfl (lv_room (Nat.le_of_ble_eq_true rfl)) dL_arePeople_127 ⟨(by show _ ≤ (400 : Nat); omega), (by show _ ≤ (4300 : Nat); omega)⟩) hS (fun r_k_74 u_k_74 H locs hw_k_74 hH hz_k_74 hS => ?_)
      obtain ⟨rfl, hu_k_74⟩ := hw_k_74
      rw [hu_k_74] at hH
      refine lv_istore (lv' := [(7, .int (B 6 k)), (6, .int (nI (10 * k))), (0, .ref x), (1, .ref (r 0)), (2, .ref (r 1)), (3, .ref (r 4)), (4, .int 1), (5, .int (nI k))]) hx hb dL_arePeople_130 hl (by decide) rfl (fun ls hl => ?_)
      refine lv_aload_n hx hb dL_arePeople_132 rfl (lv_at hl 2 rfl) ?_
      refine lv_iload hx hb dL_arePeople_133 (lv_at hl 7 rfl) ?_
      refine z_calli (va_runV (As := [.int (nI k)]) (rest := []) ⟨hx, hb, hml, hown, hts⟩ (cq_limit l hl9 D cy base x r n B A hJ.1 k hk) (cwV 1 hts gL_arePeople_X5_limit rfl rfl rfl (by decide +kernel) ⟨Nat.le_of_ble_eq_true rfl, Nat.le_of_ble_eq_true rfl⟩) (z_preV hA hS hH (l_recv hA hH)) rfl rfl hl.1 rfl (lv_room (Nat.le_of_ble_eq_true rfl)) dL_arePeople_135 ⟨(by show _ ≤ (400 : Nat); omega), (by show _ ≤ (4300 : Nat); omega)⟩) hS (fun r_k_75 u_k_75 H locs hw_k_75 hH hz_k_75 hS => ?_)
      obtain ⟨rfl, hu_k_75⟩ := hw_k_75
      rw [hu_k_75] at hH
      refine lv_istore (lv' := [(8, .int (sRest B k)), (7, .int (B 6 k)), (6, .int (nI (10 * k))), (0, .ref x), (1, .ref (r 0)), (2, .ref (r 1)), (3, .ref (r 4)), (4, .int 1), (5, .int (nI k))]) hx hb dL_arePeople_138 hl (by decide) rfl (fun ls hl => ?_)
      refine lv_aload_n hx hb dL_arePeople_140 rfl (lv_at hl 4 rfl) ?_
      refine lv_iload hx hb dL_arePeople_141 (lv_at hl 2 rfl) ?_
      refine lv_iconst (v := 4) hx hb dL_arePeople_143 (by decide) ?_
      refine lv_iadd hx hb dL_arePeople_144 ?_
      refine lv_eqi (nI_add (10 * k) 4) ?_
      refine l_iald (f := 0) (v := (B 2 k)) (by omega) hx hb hA hH (10 * k + 4) rfl (by rw [show lLen 0 = 60 from rfl]; omega) (hE.2.2.1 k (by omega)).1 dL_arePeople_145 ?_
      refine lv_iconst (v := 1) hx hb dL_arePeople_146 (by decide) ?_
      refine lv_icmp_ne (tgt := 154) hx hb dL_arePeople_147 (by decide) (fun c_76 => absurd h2 c_76) (fun _ => ?_)
      refine lv_iconst (v := 1) hx hb dL_arePeople_150 (by decide) ?_
      refine lv_goto (tgt := 155) hx hb dL_arePeople_151 (by decide) ?_
      refine lv_istore (lv' := [(9, .int 1), (8, .int (sRest B k)), (7, .int (B 6 k)), (6, .int (nI (10 * k))), (0, .ref x), (1, .ref (r 0)), (2, .ref (r 1)), (3, .ref (r 4)), (4, .int 1), (5, .int (nI k))]) hx hb dL_arePeople_155 hl (by decide) rfl (fun ls hl => ?_)
      refine lv_aload_n hx hb dL_arePeople_157 rfl (lv_at hl 4 rfl) ?_
      refine lv_iload hx hb dL_arePeople_158 (lv_at hl 9 rfl) ?_
      refine z_calli (va_runV (As := [.int (nI k)]) (rest := []) ⟨hx, hb, hml, hown, hts⟩ (cq_release l hl9 D cy base x r n B A hJ.1 k hk) (cwV 1 hts gL_arePeople_X5_release rfl rfl rfl (by decide +kernel) ⟨Nat.le_of_ble_eq_true rfl, Nat.le_of_ble_eq_true rfl⟩) (z_preV hA hS hH (l_recv hA hH)) rfl rfl hl.1 rfl (lv_room (Nat.le_of_ble_eq_true rfl)) dL_arePeople_160 ⟨(by show _ ≤ (400 : Nat); omega), (by show _ ≤ (4300 : Nat); omega)⟩) hS (fun r_k_77 u_k_77 H locs hw_k_77 hH hz_k_77 hS => ?_)
      obtain ⟨rfl, hu_k_77⟩ := hw_k_77
      rw [hu_k_77] at hH
      refine lv_aload_n hx hb dL_arePeople_163 rfl (lv_at hl 5 rfl) ?_
      refine lv_iload hx hb dL_arePeople_164 (lv_at hl 9 rfl) ?_
      refine z_calli (va_runS (As := [.ref (r 0), .int (nI k)]) (rest := [.int (sRel B k)]) ⟨hx, hb, hml, hown, hts⟩ (zl_due l hl9 D cy base x r n B A (by omega) k (by omega)) (va_cwS 2 hts gL_arePeople_L_due rfl rfl rfl (by decide +kernel) ⟨Nat.le_of_ble_eq_true rfl, Nat.le_of_ble_eq_true rfl⟩) (z_preS hA hS hH) rfl rfl hl.1 rfl (lv_room (Nat.le_of_ble_eq_true rfl)) dL_arePeople_166 ⟨(by show _ ≤ (400 : Nat); omega), (by show _ ≤ (4300 : Nat); omega)⟩) hS (fun r_k_78 u_k_78 H locs hw_k_78 hH hz_k_78 hS => ?_)
      obtain ⟨rfl, hu_k_78⟩ := hw_k_78
      rw [hu_k_78] at hH
      refine lv_eqi (show dF (A 0) k = (sRel B k) from dF_rel hE hk (hJ.2.1.1 k hk).2.1) ?_
      refine lv_icmp_ne (tgt := 358) hx hb dL_arePeople_169 (by decide) (fun c9 => absurd rfl c9) (fun _ => ?_)
      refine lv_aload_n hx hb dL_arePeople_172 rfl (lv_at hl 4 rfl) ?_
      refine lv_iload hx hb dL_arePeople_173 (lv_at hl 9 rfl) ?_
      refine z_calli (va_runV (As := [.int (nI k)]) (rest := []) ⟨hx, hb, hml, hown, hts⟩ (cq_isIn l hl9 D cy base x r n B A hJ.1 k hk) (cwV 1 hts gL_arePeople_X5_isIn rfl rfl rfl (by decide +kernel) ⟨Nat.le_of_ble_eq_true rfl, Nat.le_of_ble_eq_true rfl⟩) (z_preV hA hS hH (l_recv hA hH)) rfl rfl hl.1 rfl (lv_room (Nat.le_of_ble_eq_true rfl)) dL_arePeople_175 ⟨(by show _ ≤ (400 : Nat); omega), (by show _ ≤ (4300 : Nat); omega)⟩) hS (fun r_k_79 u_k_79 H locs hw_k_79 hH hz_k_79 hS => ?_)
      obtain ⟨rfl, hu_k_79⟩ := hw_k_79
      rw [hu_k_79] at hH
      refine lv_eqi (show (if B 2 k = 0 then (1 : Int32) else 0) = 0 from if_neg h2n) ?_
      refine lv_iload hx hb dL_arePeople_178 (lv_at hl 0 rfl) ?_
      refine lv_if_ne (tgt := 187) hx hb dL_arePeople_180 (by decide) (fun _ => ?_) (fun c_80 => absurd c_80 (by decide))
      refine lv_iconst (v := 0) hx hb dL_arePeople_187 (by decide) ?_
      refine lv_icmp_ne (tgt := 358) hx hb dL_arePeople_188 (by decide) (fun c_81 => absurd c_81 (by decide)) (fun _ => ?_)
      refine lv_iload hx hb dL_arePeople_191 (lv_at hl 2 rfl) ?_
      refine lv_if_lt (tgt := 358) hx hb dL_arePeople_193 (by decide) (fun c_82 => absurd c_82 ((rg_in hJ hk).1)) (fun _ => ?_)
      refine lv_iload hx hb dL_arePeople_196 (lv_at hl 2 rfl) ?_
      refine lv_iconst (v := 3) hx hb dL_arePeople_198 (by decide) ?_
      refine lv_icmp_ge (tgt := 358) hx hb dL_arePeople_199 (by decide) (fun c_83 => absurd c_83 ((rg_in hJ hk).2)) (fun _ => ?_)
      refine lv_aload_n hx hb dL_arePeople_202 rfl (lv_at hl 4 rfl) ?_
      refine lv_iload hx hb dL_arePeople_203 (lv_at hl 9 rfl) ?_
      refine lv_iconst (v := 0) hx hb dL_arePeople_205 (by decide) ?_
      refine z_calli (va_runV (As := [.int (nI k), .int 0]) (rest := []) ⟨hx, hb, hml, hown, hts⟩ (cq_papers0 l hl9 D cy base x r n B A hJ.1 k hk) (cwV 2 hts gL_arePeople_X5_papers rfl rfl rfl (by decide +kernel) ⟨Nat.le_of_ble_eq_true rfl, Nat.le_of_ble_eq_true rfl⟩) (z_preV hA hS hH (l_recv hA hH)) rfl rfl hl.1 rfl (lv_room (Nat.le_of_ble_eq_true rfl)) dL_arePeople_206 ⟨(by show _ ≤ (400 : Nat); omega), (by show _ ≤ (4300 : Nat); omega)⟩) hS (fun r_k_84 u_k_84 H locs hw_k_84 hH hz_k_84 hS => ?_)
      obtain ⟨rfl, hu_k_84⟩ := hw_k_84
      rw [hu_k_84] at hH
      refine lv_aload_n hx hb dL_arePeople_209 rfl (lv_at hl 5 rfl) ?_
      refine lv_iload hx hb dL_arePeople_210 (lv_at hl 3 rfl) ?_
      refine lv_bipush (v := 6) hx hb dL_arePeople_212 (by decide) ?_
      refine lv_iadd hx hb dL_arePeople_214 ?_
      refine lv_eqi (nI_add (10 * k) 6) ?_
      refine l_iald (f := 0) (v := (B 7 k)) (by omega) hx hb hA hH (10 * k + 6) rfl (by rw [show lLen 0 = 60 from rfl]; omega) (hE.2.2.1 k (by omega)).2.2.1 dL_arePeople_215 ?_
      refine lv_iconst (v := 5) hx hb dL_arePeople_216 (by decide) ?_
      refine lv_idiv hx hb dL_arePeople_217 (by decide) ?_
      refine lv_aload_n hx hb dL_arePeople_218 rfl (lv_at hl 5 rfl) ?_
      refine lv_iload hx hb dL_arePeople_219 (lv_at hl 3 rfl) ?_
      refine lv_bipush (v := 7) hx hb dL_arePeople_221 (by decide) ?_
      refine lv_iadd hx hb dL_arePeople_223 ?_
      refine lv_eqi (nI_add (10 * k) 7) ?_
      refine l_iald (f := 0) (v := (B 8 k)) (by omega) hx hb hA hH (10 * k + 7) rfl (by rw [show lLen 0 = 60 from rfl]; omega) (hE.2.2.1 k (by omega)).2.2.2.1 dL_arePeople_224 ?_
      refine lv_iadd hx hb dL_arePeople_225 ?_
      refine lv_icmp_ne (tgt := 358) hx hb dL_arePeople_226 (by decide) (fun c_85 => absurd rfl c_85) (fun _ => ?_)
      refine lv_aload_n hx hb dL_arePeople_229 rfl (lv_at hl 4 rfl) ?_
      refine lv_iload hx hb dL_arePeople_230 (lv_at hl 9 rfl) ?_
      refine lv_iconst (v := 1) hx hb dL_arePeople_232 (by decide) ?_
      refine z_calli (va_runV (As := [.int (nI k), .int 1]) (rest := []) ⟨hx, hb, hml, hown, hts⟩ (cq_papers1 l hl9 D cy base x r n B A hJ.1 k hk) (cwV 2 hts gL_arePeople_X5_papers rfl rfl rfl (by decide +kernel) ⟨Nat.le_of_ble_eq_true rfl, Nat.le_of_ble_eq_true rfl⟩) (z_preV hA hS hH (l_recv hA hH)) rfl rfl hl.1 rfl (lv_room (Nat.le_of_ble_eq_true rfl)) dL_arePeople_233 ⟨(by show _ ≤ (400 : Nat); omega), (by show _ ≤ (4300 : Nat); omega)⟩) hS (fun r_k_86 u_k_86 H locs hw_k_86 hH hz_k_86 hS => ?_)
      obtain ⟨rfl, hu_k_86⟩ := hw_k_86
      rw [hu_k_86] at hH
      refine lv_aload_n hx hb dL_arePeople_236 rfl (lv_at hl 5 rfl) ?_
      refine lv_iload hx hb dL_arePeople_237 (lv_at hl 3 rfl) ?_
      refine lv_bipush (v := 8) hx hb dL_arePeople_239 (by decide) ?_
      refine lv_iadd hx hb dL_arePeople_241 ?_
      refine lv_eqi (nI_add (10 * k) 8) ?_
      refine l_iald (f := 0) (v := (sLoss B k)) (by omega) hx hb hA hH (10 * k + 8) rfl (by rw [show lLen 0 = 60 from rfl]; omega) (hE.2.2.1 k (by omega)).2.2.2.2.1 dL_arePeople_242 ?_
      refine lv_icmp_ne (tgt := 358) hx hb dL_arePeople_243 (by decide) (fun c9 => absurd rfl c9) (fun _ => ?_)
      refine lv_aload_n hx hb dL_arePeople_246 rfl (lv_at hl 4 rfl) ?_
      refine lv_iload hx hb dL_arePeople_247 (lv_at hl 9 rfl) ?_
      refine z_calli (va_runV (As := [.int (nI k)]) (rest := []) ⟨hx, hb, hml, hown, hts⟩ (cq_orderOf l hl9 D cy base x r n B A hJ.1 k hk) (cwV 1 hts gL_arePeople_X5_orderOf rfl rfl rfl (by decide +kernel) ⟨Nat.le_of_ble_eq_true rfl, Nat.le_of_ble_eq_true rfl⟩) (z_preV hA hS hH (l_recv hA hH)) rfl rfl hl.1 rfl (lv_room (Nat.le_of_ble_eq_true rfl)) dL_arePeople_249 ⟨(by show _ ≤ (400 : Nat); omega), (by show _ ≤ (4300 : Nat); omega)⟩) hS (fun r_k_87 u_k_87 H locs hw_k_87 hH hz_k_87 hS => ?_)
      obtain ⟨rfl, hu_k_87⟩ := hw_k_87
      rw [hu_k_87] at hH
      refine lv_aload_n hx hb dL_arePeople_252 rfl (lv_at hl 5 rfl) ?_
      refine lv_iload hx hb dL_arePeople_253 (lv_at hl 3 rfl) ?_
      refine lv_iconst (v := 3) hx hb dL_arePeople_255 (by decide) ?_
      refine lv_iadd hx hb dL_arePeople_256 ?_
      refine lv_eqi (nI_add (10 * k) 3) ?_
      refine l_iald (f := 0) (v := (B 11 k)) (by omega) hx hb hA hH (10 * k + 3) rfl (by rw [show lLen 0 = 60 from rfl]; omega) (hE.2.1 k hk).2.2.2 dL_arePeople_257 ?_
      refine lv_icmp_ne (tgt := 358) hx hb dL_arePeople_258 (by decide) (fun c9 => absurd rfl c9) (fun _ => ?_)
      refine lv_iload hx hb dL_arePeople_261 (lv_at hl 1 rfl) ?_
      refine lv_if_lt (tgt := 358) hx hb dL_arePeople_263 (by decide) (fun c_88 => absurd c_88 ((rest_rng hJ hk).1)) (fun _ => ?_)
      refine lv_iload hx hb dL_arePeople_266 (lv_at hl 1 rfl) ?_
      refine lv_bipush (v := 20) hx hb dL_arePeople_268 (by decide) ?_
      refine lv_iload hx hb dL_arePeople_270 (lv_at hl 2 rfl) ?_
      refine lv_imul hx hb dL_arePeople_272 ?_
      refine lv_bipush (v := 10) hx hb dL_arePeople_273 (by decide) ?_
      refine lv_iadd hx hb dL_arePeople_275 ?_
      refine lv_icmp_gt (tgt := 358) hx hb dL_arePeople_276 (by decide) (fun c_89 => absurd c_89 ((rest_rng hJ hk).2)) (fun _ => ?_)
      refine lv_iload hx hb dL_arePeople_279 (lv_at hl 0 rfl) ?_
      refine lv_if_eq (tgt := 289) hx hb dL_arePeople_281 (by decide) (fun c_90 => absurd c_90 (by decide)) (fun _ => ?_)
      refine lv_iload hx hb dL_arePeople_284 (lv_at hl 1 rfl) ?_
      refine lv_if_ne (tgt := 358) hx hb dL_arePeople_286 (by decide) (fun c_91 => absurd (show sRest B k = 0 from if_neg h2n) c_91) (fun _ => ?_)
      refine lv_aload_n hx hb dL_arePeople_289 rfl (lv_at hl 4 rfl) ?_
      refine lv_bipush (v := 7) hx hb dL_arePeople_290 (by decide) ?_
      refine lv_iload hx hb dL_arePeople_292 (lv_at hl 9 rfl) ?_
      refine lv_iconst (v := 4) hx hb dL_arePeople_294 (by decide) ?_
      refine z_xcalli (vx_runSX (As := [.ref x, .int 7, .int (nI k), .int 4]) (rest := []) ⟨hx, hb, hml, hown, hts⟩ (za_account l hl9 D cy base x r n B A (nI k) 4 cdA4) (vx_cwSW 4 hts gL_arePeople_L_asks rfl rfl rfl (by decide +kernel) ⟨Nat.le_of_ble_eq_true rfl, Nat.le_of_ble_eq_true rfl⟩) (z_preS hA hS hH) rfl rfl hl.1 rfl (lv_room (Nat.le_of_ble_eq_true rfl)) dL_arePeople_295 ⟨(by show _ ≤ (400 : Nat); omega), (by show _ ≤ (4300 : Nat); omega)⟩) hS (fun E9 ce9 q9 u9 H locs hw9 hH hz9 hS hce9 hv9 hcl9 => hw9.elim) (fun r_k_92 u_k_92 H locs hw_k_92 hH hz_k_92 hS => ?_)
      obtain ⟨rfl, hu_k_92⟩ := hw_k_92
      rw [hu_k_92] at hH
      refine lv_bipush (v := (-30)) hx hb dL_arePeople_298 (by decide) ?_
      refine lv_icmp_ne (tgt := 358) hx hb dL_arePeople_300 (by decide) (fun c_93 => absurd c_93 (by decide)) (fun _ => ?_)
      refine lv_aload_n hx hb dL_arePeople_303 rfl (lv_at hl 4 rfl) ?_
      refine lv_bipush (v := 7) hx hb dL_arePeople_304 (by decide) ?_
      refine lv_iload hx hb dL_arePeople_306 (lv_at hl 9 rfl) ?_
      refine lv_iconst (v := (-1)) hx hb dL_arePeople_308 (by decide) ?_
      refine z_xcalli (vx_runSX (As := [.ref x, .int 7, .int (nI k), .int (-1)]) (rest := []) ⟨hx, hb, hml, hown, hts⟩ (za_account l hl9 D cy base x r n B A (nI k) (-1) cdAm) (vx_cwSW 4 hts gL_arePeople_L_asks rfl rfl rfl (by decide +kernel) ⟨Nat.le_of_ble_eq_true rfl, Nat.le_of_ble_eq_true rfl⟩) (z_preS hA hS hH) rfl rfl hl.1 rfl (lv_room (Nat.le_of_ble_eq_true rfl)) dL_arePeople_309 ⟨(by show _ ≤ (400 : Nat); omega), (by show _ ≤ (4300 : Nat); omega)⟩) hS (fun E9 ce9 q9 u9 H locs hw9 hH hz9 hS hce9 hv9 hcl9 => hw9.elim) (fun r_k_94 u_k_94 H locs hw_k_94 hH hz_k_94 hS => ?_)
      obtain ⟨rfl, hu_k_94⟩ := hw_k_94
      rw [hu_k_94] at hH
      refine lv_bipush (v := (-30)) hx hb dL_arePeople_312 (by decide) ?_
      refine lv_icmp_ne (tgt := 358) hx hb dL_arePeople_314 (by decide) (fun c_95 => absurd c_95 (by decide)) (fun _ => ?_)
      refine lv_iload hx hb dL_arePeople_317 (lv_at hl 0 rfl) ?_
      refine lv_if_ne (tgt := 331) hx hb dL_arePeople_319 (by decide) (fun _ => ?_) (fun c_96 => absurd c_96 (by decide))
      refine lv_iload hx hb dL_arePeople_331 (lv_at hl 0 rfl) ?_
      refine lv_if_eq (tgt := 354) hx hb dL_arePeople_333 (by decide) (fun c_97 => absurd c_97 (by decide)) (fun _ => ?_)
      refine lv_aload_n hx hb dL_arePeople_336 rfl (lv_at hl 4 rfl) ?_
      refine lv_iload hx hb dL_arePeople_337 (lv_at hl 9 rfl) ?_
      refine lv_iconst (v := 2) hx hb dL_arePeople_339 (by decide) ?_
      refine z_calli (va_runV (As := [.int (nI k), .int 2]) (rest := []) ⟨hx, hb, hml, hown, hts⟩ (cq_account l hl9 D cy base x r n B A hJ.1 k 2 hk (by omega)) (cwV 2 hts gL_arePeople_X5_account rfl rfl rfl (by decide +kernel) ⟨Nat.le_of_ble_eq_true rfl, Nat.le_of_ble_eq_true rfl⟩) (z_preV hA hS hH (l_recv hA hH)) rfl rfl hl.1 rfl (lv_room (Nat.le_of_ble_eq_true rfl)) dL_arePeople_340 ⟨(by show _ ≤ (400 : Nat); omega), (by show _ ≤ (4300 : Nat); omega)⟩) hS (fun r_k_98 u_k_98 H locs hw_k_98 hH hz_k_98 hS => ?_)
      obtain ⟨rfl, hu_k_98⟩ := hw_k_98
      rw [hu_k_98] at hH
      refine lv_aload_n hx hb dL_arePeople_343 rfl (lv_at hl 4 rfl) ?_
      refine lv_iload hx hb dL_arePeople_344 (lv_at hl 9 rfl) ?_
      refine lv_iconst (v := 3) hx hb dL_arePeople_346 (by decide) ?_
      refine z_calli (va_runV (As := [.int (nI k), .int 3]) (rest := [.int (B 14 (4 * k + 2))]) ⟨hx, hb, hml, hown, hts⟩ (cq_account l hl9 D cy base x r n B A hJ.1 k 3 hk (by omega)) (cwV 2 hts gL_arePeople_X5_account rfl rfl rfl (by decide +kernel) ⟨Nat.le_of_ble_eq_true rfl, Nat.le_of_ble_eq_true rfl⟩) (z_preV hA hS hH (l_recv hA hH)) rfl rfl hl.1 rfl (lv_room (Nat.le_of_ble_eq_true rfl)) dL_arePeople_347 ⟨(by show _ ≤ (400 : Nat); omega), (by show _ ≤ (4300 : Nat); omega)⟩) hS (fun r_k_99 u_k_99 H locs hw_k_99 hH hz_k_99 hS => ?_)
      obtain ⟨rfl, hu_k_99⟩ := hw_k_99
      rw [hu_k_99] at hH
      refine lv_iadd hx hb dL_arePeople_350 ?_
      refine lv_if_ne (tgt := 358) hx hb dL_arePeople_351 (by decide) (fun c_100 => absurd (show B 14 (4 * k + 2) + B 14 (4 * k + 3) = 0 by rw [((hY.2 k hk).2.1 h2n).1, ((hY.2 k hk).2.1 h2n).2.1]; rfl) c_100) (fun _ => ?_)
      refine lv_iconst (v := 1) hx hb dL_arePeople_354 (by decide) ?_
      refine lv_goto (tgt := 359) hx hb dL_arePeople_355 (by decide) ?_
      refine lv_istore (lv' := [(4, .int 1), (9, .int 1), (8, .int (sRest B k)), (7, .int (B 6 k)), (6, .int (nI (10 * k))), (0, .ref x), (1, .ref (r 0)), (2, .ref (r 1)), (3, .ref (r 4)), (5, .int (nI k))]) hx hb dL_arePeople_359 hl (by decide) rfl (fun ls hl => ?_)
      refine lv_iconst (v := 0) hx hb dL_arePeople_361 (by decide) ?_
      refine lv_istore (lv' := [(10, .int 0), (4, .int 1), (9, .int 1), (8, .int (sRest B k)), (7, .int (B 6 k)), (6, .int (nI (10 * k))), (0, .ref x), (1, .ref (r 0)), (2, .ref (r 1)), (3, .ref (r 4)), (5, .int (nI k))]) hx hb dL_arePeople_362 hl (by decide) rfl (fun ls hl => ?_)
      have hl_101 : lv_has ls 11 [(0, .ref x), (1, .ref (r 0)), (2, .ref (r 1)), (3, .ref (r 4)), (4, .int 1), (5, .int (nI k)), (10, .int 0)] := lv_sub hl [6, 7, 8, 9, 1, 10, 0] rfl
      have hl_101 : lv_has ls 11 [(0, .ref x), (1, .ref (r 0)), (2, .ref (r 1)), (3, .ref (r 4)), (4, .int 1), (5, .int (nI k)), (10, .int (nI 0))] := hl_101
      refine z_forc (S := lU) (nL := 11) (4) (fun j u => u = (B, A)) (fun j _ => [(0, .ref x), (1, .ref (r 0)), (2, .ref (r 1)), (3, .ref (r 4)), (4, .int 1), (5, .int (nI k)), (10, .int (nI j))]) _ 6 _ 70 (rfl) hH hS hl_101 (Nat.le_refl _) (Nat.le_refl _) ?_ ?_
      · intro u H locs ls hI hH hS hl
        subst hI
        refine lv_iload hx hb dL_arePeople_364 (lv_at hl 6 rfl) ?_
        refine lv_iconst (v := 4) hx hb dL_arePeople_366 (by decide) ?_
        refine lv_icmp_ge (tgt := 399) hx hb dL_arePeople_367 (by decide) (fun _ => ?_) (fun c_102 => absurd ((nI_leI (a := 4) (b := 4) (by omega) (by omega)).mpr (by omega)) c_102)
        refine lv_iinc (v := ((nI k) + 1)) (lv' := [(5, .int ((nI k) + 1)), (0, .ref x), (1, .ref (r 0)), (2, .ref (r 1)), (3, .ref (r 4)), (4, .int 1), (10, .int (nI 4))]) hx hb dL_arePeople_399 hl (k := 5) rfl rfl (by decide) rfl (fun ls hl => ?_)
        rw [show (((nI k) + 1) : Int32) = (nI (k + 1)) from nI_add k 1] at hl
        refine lv_goto (tgt := 104) hx hb dL_arePeople_402 (by decide) ?_
        have hl_103 : lv_has ls 11 [(0, .ref x), (1, .ref (r 0)), (2, .ref (r 1)), (3, .ref (r 4)), (4, .int 1), (5, .int (nI (k + 1)))] := lv_sub hl [1, 2, 3, 4, 5, 0] rfl
        have hl_103 : lv_has ls 11 [(0, .ref x), (1, .ref (r 0)), (2, .ref (r 1)), (3, .ref (r 4)), (4, .int 1), (5, .int (nI (k + 1)))] := hl_103
        exact ihk _ _ _ _ _ _ (rfl) hH hS hl_103 (by omega) (by omega)
      · intro j hj ihj u H locs ls hI hH hS hl
        subst hI
        refine lv_iload hx hb dL_arePeople_364 (lv_at hl 6 rfl) ?_
        refine lv_iconst (v := 4) hx hb dL_arePeople_366 (by decide) ?_
        refine lv_icmp_ge (tgt := 399) hx hb dL_arePeople_367 (by decide) (fun c_104 => absurd ((nI_leI (a := 4) (b := j) (by omega) (by omega)).mp c_104) (by omega)) (fun _ => ?_)
        refine lv_iload hx hb dL_arePeople_370 (lv_at hl 4 rfl) ?_
        refine lv_if_eq (tgt := 399) hx hb dL_arePeople_372 (by decide) (fun c_105 => absurd c_105 (by decide)) (fun _ => ?_)
        refine lv_aload_n hx hb dL_arePeople_375 rfl (lv_at hl 0 rfl) ?_
        refine lv_iload hx hb dL_arePeople_376 (lv_at hl 5 rfl) ?_
        refine lv_iload hx hb dL_arePeople_378 (lv_at hl 6 rfl) ?_
        refine z_calli (va_runV (As := [.int (nI k), .int (nI j)]) (rest := []) ⟨hx, hb, hml, hown, hts⟩ (cq_account l hl9 D cy base x r n B A hJ.1 k j hk (by omega)) (cwV 2 hts gL_arePeople_X5_account rfl rfl rfl (by decide +kernel) ⟨Nat.le_of_ble_eq_true rfl, Nat.le_of_ble_eq_true rfl⟩) (z_preV hA hS hH (l_recv hA hH)) rfl rfl hl.1 rfl (lv_room (Nat.le_of_ble_eq_true rfl)) dL_arePeople_380 ⟨(by show _ ≤ (400 : Nat); omega), (by show _ ≤ (4300 : Nat); omega)⟩) hS (fun r_k_106 u_k_106 H locs hw_k_106 hH hz_k_106 hS => ?_)
        obtain ⟨rfl, hu_k_106⟩ := hw_k_106
        rw [hu_k_106] at hH
        refine lv_if_lt (tgt := 390) hx hb dL_arePeople_383 (by decide) (fun c_107 => absurd c_107 (acc_nn hY hk hj)) (fun _ => ?_)
        refine lv_iconst (v := 1) hx hb dL_arePeople_386 (by decide) ?_
        refine lv_goto (tgt := 391) hx hb dL_arePeople_387 (by decide) ?_
        refine lv_istore (lv' := [(4, .int 1), (0, .ref x), (1, .ref (r 0)), (2, .ref (r 1)), (3, .ref (r 4)), (5, .int (nI k)), (10, .int (nI j))]) hx hb dL_arePeople_391 hl (by decide) rfl (fun ls hl => ?_)
        refine lv_iinc (v := ((nI j) + 1)) (lv' := [(10, .int ((nI j) + 1)), (4, .int 1), (0, .ref x), (1, .ref (r 0)), (2, .ref (r 1)), (3, .ref (r 4)), (5, .int (nI k))]) hx hb dL_arePeople_393 hl (k := 6) rfl rfl (by decide) rfl (fun ls hl => ?_)
        rw [show (((nI j) + 1) : Int32) = (nI (j + 1)) from nI_add j 1] at hl
        refine lv_goto (tgt := 364) hx hb dL_arePeople_396 (by decide) ?_
        have hl_108 : lv_has ls 11 [(0, .ref x), (1, .ref (r 0)), (2, .ref (r 1)), (3, .ref (r 4)), (4, .int 1), (5, .int (nI k)), (10, .int (nI (j + 1)))] := lv_sub hl [2, 3, 4, 5, 1, 6, 0] rfl
        have hl_108 : lv_has ls 11 [(0, .ref x), (1, .ref (r 0)), (2, .ref (r 1)), (3, .ref (r 4)), (4, .int 1), (5, .int (nI k)), (10, .int (nI (j + 1)))] := hl_108
        exact ihj _ _ _ _ _ _ (rfl) hH hS hl_108 (by omega) (by omega)
