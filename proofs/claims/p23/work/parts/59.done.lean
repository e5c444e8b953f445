/-- two roads that come to one place -/
theorem lv_cut {p : Program} {l : Launch} {e : Env} {R : Room} {s : State} {m : MethodId} {args : Array Value} {below : List Frame} {meth : Method} {c : Code} {H : Heap} {locs : List Loc} {cells slots : Nat} {Q : State → Prop} {nL pc1 pc2 : Nat} {ls0 : Array Slot} {st : List Value} (I : Nat → Prop) (loc : Nat → List (Nat × Value)) (rest : ∀ (v : Nat) (ls : Array Slot), I v → lv_has ls nL (loc v) → W p l e R s m args below meth c H locs cells slots Q (F0 m pc2 ls []))
    (now : (∀ (v : Nat) (ls : Array Slot), I v → lv_has ls nL (loc v) → W p l e R s m args below meth c H locs cells slots Q (F0 m pc2 ls [])) → W p l e R s m args below meth c H locs cells slots Q (F0 m pc1 ls0 st)) : W p l e R s m args below meth c H locs cells slots Q (F0 m pc1 ls0 st) := now rest
set_option maxHeartbeats 8000000 in
set_option maxRecDepth 100000 in
theorem zl_isDone (l : Launch) (hl9 : l.stackTraces = false) (D : va_G) (cy : Nat → ClassId) (base x : Nat) (r : Nat → Nat) (B A : mB) (b L : Nat) (xs : Nat → Int32) (hL : L ≤ 260) {N : Nat} (hE : JE B A) (hY : JX N B) (hN : N ≤ 590) (k : Nat) (hk : k < 60) : Met l yL_isDone wsL_isDone ({ frames := 10, cells := 2900, slots := 32500, locals := 196 }) (zPs D cy base (lH D cy base x r 5) [.ref x, .ref b, .int (nI (4 * k)), .ref (r 0), .ref (r 1), .ref (r 2), .ref (r 3), .ref (r 4)] (B, A) b L xs) (zQi base (lH D cy base x r 5) (fun (r0 : Int32) (u0 : lU) => r0 = 1 ∧ JE u0.1 u0.2 ∧ JX (N + 9) u0.1)) 2900 32500 (fun q => base ≤ q) := by
  refine Met.ofW (cc := cL_isDone) (maxL := 19) (ret := (some .boolean)) (by decide) rfl ?_
  intro p e s m args below meth c s₁ B9 hml hv
  obtain ⟨⟨rfl, hA, hH⟩, hX, hbl, hbb⟩ := hv
  have hx := B9.exec
  have hb := B9.bytes
  have hr := B9.returns
  have hts := atoms_spec (ws := wsL_isDone) B9.pre
  have hown : s.vm.findClass RL = some m.cls := findClass_of_methodNamed B9.named
  have hlocks := B9.notSynchronized
  have hS : va_S (fun q : Nat => base ≤ q) s.heap s.heap [] := va_S.rf
  have hl := lv_entry ([.ref x, .ref b, .int (nI (4 * k)), .ref (r 0), .ref (r 1), .ref (r 2), .ref (r 3), .ref (r 4)]) (n := 19) (Nat.le_of_ble_eq_true rfl)
  rw [lg_entry_eq]
  generalize (lg_sl ([.ref x, .ref b, .int (nI (4 * k)), .ref (r 0), .ref (r 1), .ref (r 2), .ref (r 3), .ref (r 4)]) ++ List.replicate (19 - (lg_sl ([.ref x, .ref b, .int (nI (4 * k)), .ref (r 0), .ref (r 1), .ref (r 2), .ref (r 3), .ref (r 4)])).length) Slot.unset).toArray = ls at hl ⊢
  have hl : lv_has ls 19 [(0, .ref x), (1, .ref b), (2, .int (nI (4 * k))), (3, .ref (r 0)), (4, .ref (r 1)), (5, .ref (r 2)), (6, .ref (r 3)), (7, .ref (r 4))] := hl
  have hJ := lH_J hH
  have hn6 : nP B ≤ 6 := hE.1.1
  have hn8 : nO B ≤ 8 := hJ.1.2.1.1
  refine lv_aload_n hx hb dL_isDone_0 rfl (lv_at hl 1 rfl) ?_
  refine lv_iload_n hx hb dL_isDone_1 rfl (lv_at hl 2 rfl) ?_
  refine lv_bipush (v := 40) hx hb dL_isDone_2 (by decide) ?_
  refine z_calli (va_runS (As := [.ref b, .int (nI (4 * k)), .int 40]) (rest := []) ⟨hx, hb, hml, hown, hts⟩ (zl_part l D cy base x r 5 B A b L xs hL (nI (4 * k)) ⟨4 * k, by omega, rfl⟩ 40 (by omega) (by omega)) (va_cwS 3 hts gL_isDone_L_part rfl rfl rfl (by decide +kernel) ⟨Nat.le_of_ble_eq_true rfl, Nat.le_of_ble_eq_true rfl⟩) (z_preSs hA hS hH hX hbl hbb) rfl rfl hl.1 rfl (lv_room (Nat.le_of_ble_eq_true rfl)) dL_isDone_4 ⟨(by show _ ≤ (2900 : Nat); omega), (by show _ ≤ (32500 : Nat); omega)⟩) hS (fun r_k_1 u_k_1 H locs hw_k_1 hH hz_k_1 hS => ?_)
  obtain ⟨wh, hwh, rfl, hu_k_1⟩ := hw_k_1
  rw [hu_k_1] at hH
  refine lv_istore (lv' := [(8, .int (nI wh)), (0, .ref x), (1, .ref b), (2, .int (nI (4 * k))), (3, .ref (r 0)), (4, .ref (r 1)), (5, .ref (r 2)), (6, .ref (r 3)), (7, .ref (r 4))]) hx hb dL_isDone_7 hl (by decide) rfl (fun ls hl => ?_)
  refine lv_aload_n hx hb dL_isDone_9 rfl (lv_at hl 2 rfl) ?_
  refine lv_iload_n hx hb dL_isDone_10 rfl (lv_at hl 3 rfl) ?_
  refine lv_iconst (v := 1) hx hb dL_isDone_11 (by decide) ?_
  refine lv_iadd hx hb dL_isDone_12 ?_
  refine lv_eqi (nI_add (4 * k) 1) ?_
  refine lv_sipush (v := 6000) hx hb dL_isDone_13 (by decide) ?_
  refine z_calli (va_runS (As := [.ref b, .int (nI (4 * k + 1)), .int 6000]) (rest := []) ⟨hx, hb, hml, hown, hts⟩ (zl_part l D cy base x r 5 B A b L xs hL (nI (4 * k + 1)) ⟨4 * k + 1, by omega, rfl⟩ 6000 (by omega) (by omega)) (va_cwS 3 hts gL_isDone_L_part rfl rfl rfl (by decide +kernel) ⟨Nat.le_of_ble_eq_true rfl, Nat.le_of_ble_eq_true rfl⟩) (z_preSs hA hS hH hX hbl hbb) rfl rfl hl.1 rfl (lv_room (Nat.le_of_ble_eq_true rfl)) dL_isDone_16 ⟨(by show _ ≤ (2900 : Nat); omega), (by show _ ≤ (32500 : Nat); omega)⟩) hS (fun r_k_2 u_k_2 H locs hw_k_2 hH hz_k_2 hS => ?_)
  obtain ⟨one, hone, rfl, hu_k_2⟩ := hw_k_2
  rw [hu_k_2] at hH
  refine lv_istore (lv' := [(9, .int (nI one)), (8, .int (nI wh)), (0, .ref x), (1, .ref b), (2, .int (nI (4 * k))), (3, .ref (r 0)), (4, .ref (r 1)), (5, .ref (r 2)), (6, .ref (r 3)), (7, .ref (r 4))]) hx hb dL_isDone_19 hl (by decide) rfl (fun ls hl => ?_)
  refine lv_aload_n hx hb dL_isDone_21 rfl (lv_at hl 3 rfl) ?_
  refine lv_iload_n hx hb dL_isDone_22 rfl (lv_at hl 4 rfl) ?_
  refine lv_iconst (v := 2) hx hb dL_isDone_23 (by decide) ?_
  refine lv_iadd hx hb dL_isDone_24 ?_
  refine lv_eqi (nI_add (4 * k) 2) ?_
  refine lv_sipush (v := 7000) hx hb dL_isDone_25 (by decide) ?_
  refine z_calli (va_runS (As := [.ref b, .int (nI (4 * k + 2)), .int 7000]) (rest := []) ⟨hx, hb, hml, hown, hts⟩ (zl_part l D cy base x r 5 B A b L xs hL (nI (4 * k + 2)) ⟨4 * k + 2, by omega, rfl⟩ 7000 (by omega) (by omega)) (va_cwS 3 hts gL_isDone_L_part rfl rfl rfl (by decide +kernel) ⟨Nat.le_of_ble_eq_true rfl, Nat.le_of_ble_eq_true rfl⟩) (z_preSs hA hS hH hX hbl hbb) rfl rfl hl.1 rfl (lv_room (Nat.le_of_ble_eq_true rfl)) dL_isDone_28 ⟨(by show _ ≤ (2900 : Nat); omega), (by show _ ≤ (32500 : Nat); omega)⟩) hS (fun r_k_3 u_k_3 H locs hw_k_3 hH hz_k_3 hS => ?_)
  obtain ⟨two, htwo, rfl, hu_k_3⟩ := hw_k_3
  rw [hu_k_3] at hH
  refine lv_istore (lv' := [(10, .int (nI two)), (9, .int (nI one)), (8, .int (nI wh)), (0, .ref x), (1, .ref b), (2, .int (nI (4 * k))), (3, .ref (r 0)), (4, .ref (r 1)), (5, .ref (r 2)), (6, .ref (r 3)), (7, .ref (r 4))]) hx hb dL_isDone_31 hl (by decide) rfl (fun ls hl => ?_)
  refine lv_aload_n hx hb dL_isDone_33 rfl (lv_at hl 4 rfl) ?_
  refine lv_iload_n hx hb dL_isDone_34 rfl (lv_at hl 5 rfl) ?_
  refine lv_iconst (v := 3) hx hb dL_isDone_35 (by decide) ?_
  refine lv_iadd hx hb dL_isDone_36 ?_
  refine lv_eqi (nI_add (4 * k) 3) ?_
  refine lv_sipush (v := 8000) hx hb dL_isDone_37 (by decide) ?_
  refine z_calli (va_runS (As := [.ref b, .int (nI (4 * k + 3)), .int 8000]) (rest := []) ⟨hx, hb, hml, hown, hts⟩ (zl_part l D cy base x r 5 B A b L xs hL (nI (4 * k + 3)) ⟨4 * k + 3, by omega, rfl⟩ 8000 (by omega) (by omega)) (va_cwS 3 hts gL_isDone_L_part rfl rfl rfl (by decide +kernel) ⟨Nat.le_of_ble_eq_true rfl, Nat.le_of_ble_eq_true rfl⟩) (z_preSs hA hS hH hX hbl hbb) rfl rfl hl.1 rfl (lv_room (Nat.le_of_ble_eq_true rfl)) dL_isDone_40 ⟨(by show _ ≤ (2900 : Nat); omega), (by show _ ≤ (32500 : Nat); omega)⟩) hS (fun r_k_4 u_k_4 H locs hw_k_4 hH hz_k_4 hS => ?_)
  obtain ⟨thr, hthr, rfl, hu_k_4⟩ := hw_k_4
  rw [hu_k_4] at hH
  refine lv_istore (lv' := [(11, .int (nI thr)), (10, .int (nI two)), (9, .int (nI one)), (8, .int (nI wh)), (0, .ref x), (1, .ref b), (2, .int (nI (4 * k))), (3, .ref (r 0)), (4, .ref (r 1)), (5, .ref (r 2)), (6, .ref (r 3)), (7, .ref (r 4))]) hx hb dL_isDone_43 hl (by decide) rfl (fun ls hl => ?_)
  refine lv_cut (nL := 19) (pc2 := 76) (fun v9 => v9 ≤ nP B) (fun v9 => [(0, .ref x), (1, .ref b), (3, .ref (r 0)), (4, .ref (r 1)), (5, .ref (r 2)), (6, .ref (r 3)), (7, .ref (r 4)), (8, .int (nI wh)), (9, .int (nI one)), (10, .int (nI two)), (11, .int (nI thr)), (12, .int (nI v9))]) (fun v9 ls hv9 hl => ?_) (fun hrest => ?_)
  · refine lv_iload hx hb dL_isDone_76 (lv_at hl 7 rfl) ?_
    refine lv_iconst (v := 5) hx hb dL_isDone_78 (by decide) ?_
    refine lv_icmp_ge (tgt := 294) hx hb dL_isDone_79 (by decide) (fun c_5 => ?_) (fun c_5 => ?_)
    · have c_5 := (nI_leI (a := 5) (b := wh) (by omega) (by omega)).mp c_5
      refine lv_iload hx hb dL_isDone_294 (lv_at hl 7 rfl) ?_
      refine lv_bipush (v := 9) hx hb dL_isDone_296 (by decide) ?_
      refine lv_icmp_ge (tgt := 336) hx hb dL_isDone_298 (by decide) (fun c_6 => ?_) (fun c_6 => ?_)
      · have c_6 := (nI_leI (a := 9) (b := wh) (by omega) (by omega)).mp c_6
        refine lv_iload hx hb dL_isDone_336 (lv_at hl 7 rfl) ?_
        refine lv_bipush (v := 12) hx hb dL_isDone_338 (by decide) ?_
        refine lv_icmp_ge (tgt := 359) hx hb dL_isDone_340 (by decide) (fun c_7 => ?_) (fun c_7 => ?_)
        · have c_7 := (nI_leI (a := 12) (b := wh) (by omega) (by omega)).mp c_7
          refine lv_iload hx hb dL_isDone_359 (lv_at hl 7 rfl) ?_
          refine lv_bipush (v := 15) hx hb dL_isDone_361 (by decide) ?_
          refine lv_icmp_ge (tgt := 475) hx hb dL_isDone_363 (by decide) (fun c_8 => ?_) (fun c_8 => ?_)
          · have c_8 := (nI_leI (a := 15) (b := wh) (by omega) (by omega)).mp c_8
            refine lv_iload hx hb dL_isDone_475 (lv_at hl 7 rfl) ?_
            refine lv_bipush (v := 19) hx hb dL_isDone_477 (by decide) ?_
            refine lv_icmp_ge (tgt := 668) hx hb dL_isDone_479 (by decide) (fun c_9 => ?_) (fun c_9 => ?_)
            · have c_9 := (nI_leI (a := 19) (b := wh) (by omega) (by omega)).mp c_9
              refine lv_iload hx hb dL_isDone_668 (lv_at hl 7 rfl) ?_
              refine lv_bipush (v := 27) hx hb dL_isDone_670 (by decide) ?_
              refine lv_icmp_ge (tgt := 698) hx hb dL_isDone_672 (by decide) (fun c_10 => ?_) (fun c_10 => ?_)
              · have c_10 := (nI_leI (a := 27) (b := wh) (by omega) (by omega)).mp c_10
                refine lv_iload hx hb dL_isDone_698 (lv_at hl 7 rfl) ?_
                refine lv_bipush (v := 27) hx hb dL_isDone_700 (by decide) ?_
                refine lv_icmp_ne (tgt := 784) hx hb dL_isDone_702 (by decide) (fun c_11 => ?_) (fun c_11 => ?_)
                · have c_11 : ¬ (wh = 27) := fun z => c_11 ((nI_eq (a := wh) (b := 27) (by omega) (by omega)).mpr z)
                  refine lv_iload hx hb dL_isDone_784 (lv_at hl 7 rfl) ?_
                  refine lv_bipush (v := 31) hx hb dL_isDone_786 (by decide) ?_
                  refine lv_icmp_ge (tgt := 820) hx hb dL_isDone_788 (by decide) (fun c_12 => ?_) (fun c_12 => ?_)
                  · have c_12 := (nI_leI (a := 31) (b := wh) (by omega) (by omega)).mp c_12
                    refine lv_aload_n hx hb dL_isDone_820 rfl (lv_at hl 0 rfl) ?_
                    refine lv_bipush (v := 9) hx hb dL_isDone_821 (by decide) ?_
                    refine lv_iconst (v := 0) hx hb dL_isDone_823 (by decide) ?_
                    refine lv_iconst (v := 0) hx hb dL_isDone_824 (by decide) ?_
                    refine lv_iconst (v := 0) hx hb dL_isDone_825 (by decide) ?_
                    refine lv_iconst (v := 0) hx hb dL_isDone_826 (by decide) ?_
                    refine z_xcalli (vx_runSX (As := [.ref x, .int 9, .int 0, .int 0, .int 0, .int 0]) (rest := []) ⟨hx, hb, hml, hown, hts⟩ (zx_pass_1 l hl9 D cy base x r 5 B A 0 0 0 0 (show cd_pass B 0 = 1 from rfl)) (vx_cwSW 6 hts gL_isDone_L_does rfl rfl rfl (by decide +kernel) ⟨Nat.le_of_ble_eq_true rfl, Nat.le_of_ble_eq_true rfl⟩) (z_preS hA hS hH) rfl rfl hl.1 rfl (lv_room (Nat.le_of_ble_eq_true rfl)) dL_isDone_827 ⟨(by show _ ≤ (2900 : Nat); omega), (by show _ ≤ (32500 : Nat); omega)⟩) hS (fun E9 ce9 q9 u9 H locs hw9 hH hz9 hS hce9 hv9 hcl9 => hw9.elim) (fun r_k_13 u_k_13 H locs hw_k_13 hH hz_k_13 hS => ?_)
                    obtain ⟨rfl, hu_k_13⟩ := hw_k_13
                    rw [hu_k_13] at hH
                    refine lv_bipush (v := (-20)) hx hb dL_isDone_830 (by decide) ?_
                    refine lv_icmp_ne (tgt := 855) hx hb dL_isDone_832 (by decide) (fun c_14 => absurd c_14 (by decide)) (fun _ => ?_)
                    refine lv_aload_n hx hb dL_isDone_835 rfl (lv_at hl 0 rfl) ?_
                    refine lv_bipush (v := 9) hx hb dL_isDone_836 (by decide) ?_
                    refine lv_bipush (v := 101) hx hb dL_isDone_838 (by decide) ?_
                    refine lv_iconst (v := 0) hx hb dL_isDone_840 (by decide) ?_
                    refine lv_iconst (v := 0) hx hb dL_isDone_841 (by decide) ?_
                    refine lv_iconst (v := 0) hx hb dL_isDone_842 (by decide) ?_
                    refine z_xcalli (vx_runSX (As := [.ref x, .int 9, .int 101, .int 0, .int 0, .int 0]) (rest := []) ⟨hx, hb, hml, hown, hts⟩ (zx_pass_1 l hl9 D cy base x r 5 B A 101 0 0 0 (show cd_pass B 101 = 1 from rfl)) (vx_cwSW 6 hts gL_isDone_L_does rfl rfl rfl (by decide +kernel) ⟨Nat.le_of_ble_eq_true rfl, Nat.le_of_ble_eq_true rfl⟩) (z_preS hA hS hH) rfl rfl hl.1 rfl (lv_room (Nat.le_of_ble_eq_true rfl)) dL_isDone_843 ⟨(by show _ ≤ (2900 : Nat); omega), (by show _ ≤ (32500 : Nat); omega)⟩) hS (fun E9 ce9 q9 u9 H locs hw9 hH hz9 hS hce9 hv9 hcl9 => hw9.elim) (fun r_k_15 u_k_15 H locs hw_k_15 hH hz_k_15 hS => ?_)
                    obtain ⟨rfl, hu_k_15⟩ := hw_k_15
                    rw [hu_k_15] at hH
                    refine lv_bipush (v := (-20)) hx hb dL_isDone_846 (by decide) ?_
                    refine lv_icmp_ne (tgt := 855) hx hb dL_isDone_848 (by decide) (fun c_16 => absurd c_16 (by decide)) (fun _ => ?_)
                    refine lv_iconst (v := 1) hx hb dL_isDone_851 (by decide) ?_
                    refine lv_goto (tgt := 856) hx hb dL_isDone_852 (by decide) ?_
                    refine lv_istore (lv' := [(13, .int 1), (0, .ref x), (1, .ref b), (3, .ref (r 0)), (4, .ref (r 1)), (5, .ref (r 2)), (6, .ref (r 3)), (7, .ref (r 4)), (8, .int (nI wh)), (9, .int (nI one)), (10, .int (nI two)), (11, .int (nI thr)), (12, .int (nI v9))]) hx hb dL_isDone_856 hl (by decide) rfl (fun ls hl => ?_)
                    refine lv_iconst (v := 0) hx hb dL_isDone_858 (by decide) ?_
                    refine lv_istore (lv' := [(14, .int 0), (13, .int 1), (0, .ref x), (1, .ref b), (3, .ref (r 0)), (4, .ref (r 1)), (5, .ref (r 2)), (6, .ref (r 3)), (7, .ref (r 4)), (8, .int (nI wh)), (9, .int (nI one)), (10, .int (nI two)), (11, .int (nI thr)), (12, .int (nI v9))]) hx hb dL_isDone_859 hl (by decide) rfl (fun ls hl => ?_)
                    have hl_17 : lv_has ls 19 [(0, .ref x), (3, .ref (r 0)), (4, .ref (r 1)), (7, .ref (r 4)), (9, .int (nI one)), (13, .int 1), (14, .int 0)] := lv_sub hl [2, 4, 5, 8, 10, 1, 0] rfl
                    have hl_17 : lv_has ls 19 [(0, .ref x), (3, .ref (r 0)), (4, .ref (r 1)), (7, .ref (r 4)), (9, .int (nI one)), (13, .int 1), (14, .int (nI 0))] := hl_17
                    refine z_forc (S := lU) (nL := 19) (1 + (one % 9)) (fun d u => ∃ B1 A1 : mB, u = (B1, A1) ∧ JE B1 A1 ∧ JX (N + d) B1) (fun d _ => [(0, .ref x), (3, .ref (r 0)), (4, .ref (r 1)), (7, .ref (r 4)), (9, .int (nI one)), (13, .int 1), (14, .int (nI d))]) _ 320 _ 3600 (⟨B, A, rfl, hE, hY⟩) hH hS hl_17 (Nat.le_refl _) (Nat.le_refl _) ?_ ?_
                    · intro u H locs ls hI hH hS hl
                      obtain ⟨B1, A1, rfl, hE1, hY1⟩ := hI
                      have hJ1 := lH_J hH
                      refine lv_iload hx hb dL_isDone_861 (lv_at hl 6 rfl) ?_
                      refine lv_iconst (v := 1) hx hb dL_isDone_863 (by decide) ?_
                      refine lv_iload hx hb dL_isDone_864 (lv_at hl 4 rfl) ?_
                      refine lv_bipush (v := 9) hx hb dL_isDone_866 (by decide) ?_
                      refine lv_irem hx hb dL_isDone_868 (by decide) ?_
                      refine lv_eqi (pk_rem (a := one) (d := 9) (by omega) (by omega) (by omega)) ?_
                      refine lv_iadd hx hb dL_isDone_869 ?_
                      refine lv_eqi (nI_add 1 (one % 9)) ?_
                      refine lv_icmp_ge (tgt := 895) hx hb dL_isDone_870 (by decide) (fun _ => ?_) (fun c_18 => absurd ((nI_leI (a := 1 + (one % 9)) (b := 1 + (one % 9)) (by omega) (by omega)).mpr (by omega)) c_18)
                      refine lv_iload hx hb dL_isDone_895 (lv_at hl 5 rfl) ?_
                      exact z_zret hx hb hr hlocks hH hS rfl (⟨rfl, hE1, JX_mono hY1 (by omega)⟩) (by omega) (by omega) dL_isDone_897
                    · intro d hd ihd u H locs ls hI hH hS hl
                      obtain ⟨B1, A1, rfl, hE1, hY1⟩ := hI
                      have hJ1 := lH_J hH
                      refine lv_iload hx hb dL_isDone_861 (lv_at hl 6 rfl) ?_
                      refine lv_iconst (v := 1) hx hb dL_isDone_863 (by decide) ?_
                      refine lv_iload hx hb dL_isDone_864 (lv_at hl 4 rfl) ?_
                      refine lv_bipush (v := 9) hx hb dL_isDone_866 (by decide) ?_
                      refine lv_irem hx hb dL_isDone_868 (by decide) ?_
                      refine lv_eqi (pk_rem (a := one) (d := 9) (by omega) (by omega) (by omega)) ?_
                      refine lv_iadd hx hb dL_isDone_869 ?_
                      refine lv_eqi (nI_add 1 (one % 9)) ?_
                      refine lv_icmp_ge (tgt := 895) hx hb dL_isDone_870 (by decide) (fun c_19 => absurd ((nI_leI (a := 1 + (one % 9)) (b := d) (by omega) (by omega)).mp c_19) (by omega)) (fun _ => ?_)
                      refine lv_iload hx hb dL_isDone_873 (lv_at hl 5 rfl) ?_
                      refine lv_if_eq (tgt := 895) hx hb dL_isDone_875 (by decide) (fun c_20 => absurd c_20 (by decide)) (fun _ => ?_)
                      refine lv_aload_n hx hb dL_isDone_878 rfl (lv_at hl 0 rfl) ?_
                      refine lv_aload_n hx hb dL_isDone_879 rfl (lv_at hl 1 rfl) ?_
                      refine lv_aload hx hb dL_isDone_880 (lv_at hl 2 rfl) ?_
                      refine lv_aload hx hb dL_isDone_882 (lv_at hl 3 rfl) ?_
                      refine z_calli (va_runS (As := [.ref x, .ref (r 0), .ref (r 1), .ref (r 4)]) (rest := []) ⟨hx, hb, hml, hown, hts⟩ (zl_isDay l hl9 D cy base x r B1 A1 hE1 hY1 (by omega)) (va_cwS 4 hts gL_isDone_L_isDay rfl rfl rfl (by decide +kernel) ⟨Nat.le_of_ble_eq_true rfl, Nat.le_of_ble_eq_true rfl⟩) (z_preS hA hS hH) rfl rfl hl.1 rfl (lv_room (Nat.le_of_ble_eq_true rfl)) dL_isDone_884 ⟨(by show _ ≤ (2900 : Nat); omega), (by show _ ≤ (32500 : Nat); omega)⟩) hS (fun r_k_21 u_k_21 H locs hw_k_21 hH hz_k_21 hS => ?_)
                      obtain ⟨B_k_21, A_k_21⟩ := u_k_21
                      obtain ⟨rfl, hE_k_21, hY_k_21⟩ := hw_k_21
                      have hE_k_21 : JE B_k_21 A_k_21 := hE_k_21
                      have hY_k_21 : JX (N + d + 1) B_k_21 := hY_k_21
                      have hJ_k_21 := lH_J hH
                      have hn_k_21 : nP B_k_21 ≤ 6 := hE_k_21.1.1
                      refine lv_istore (lv' := [(13, .int 1), (0, .ref x), (3, .ref (r 0)), (4, .ref (r 1)), (7, .ref (r 4)), (9, .int (nI one)), (14, .int (nI d))]) hx hb dL_isDone_887 hl (by decide) rfl (fun ls hl => ?_)
                      refine lv_iinc (v := ((nI d) + 1)) (lv' := [(14, .int ((nI d) + 1)), (13, .int 1), (0, .ref x), (3, .ref (r 0)), (4, .ref (r 1)), (7, .ref (r 4)), (9, .int (nI one))]) hx hb dL_isDone_889 hl (k := 6) rfl rfl (by decide) rfl (fun ls hl => ?_)
                      rw [show (((nI d) + 1) : Int32) = (nI (d + 1)) from nI_add d 1] at hl
                      refine lv_goto (tgt := 861) hx hb dL_isDone_892 (by decide) ?_
                      have hl_22 : lv_has ls 19 [(0, .ref x), (3, .ref (r 0)), (4, .ref (r 1)), (7, .ref (r 4)), (9, .int (nI one)), (13, .int 1), (14, .int (nI (d + 1)))] := lv_sub hl [2, 3, 4, 5, 6, 1, 0] rfl
                      have hl_22 : lv_has ls 19 [(0, .ref x), (3, .ref (r 0)), (4, .ref (r 1)), (7, .ref (r 4)), (9, .int (nI one)), (13, .int 1), (14, .int (nI (d + 1)))] := hl_22
                      exact ihd _ _ _ _ _ _ (⟨B_k_21, A_k_21, rfl, hE_k_21, hY_k_21⟩) hH hS hl_22 (by omega) (by omega)
                  · have c_12 : ¬ (31 ≤ wh) := fun z => c_12 ((nI_leI (a := 31) (b := wh) (by omega) (by omega)).mpr z)
                    refine lv_aload_n hx hb dL_isDone_791 rfl (lv_at hl 0 rfl) ?_
                    refine lv_aload_n hx hb dL_isDone_792 rfl (lv_at hl 2 rfl) ?_
                    refine lv_aload hx hb dL_isDone_793 (lv_at hl 6 rfl) ?_
                    refine lv_iload hx hb dL_isDone_795 (lv_at hl 11 rfl) ?_
                    refine lv_iload hx hb dL_isDone_797 (lv_at hl 9 rfl) ?_
                    refine lv_bipush (v := 40) hx hb dL_isDone_799 (by decide) ?_
                    refine lv_irem hx hb dL_isDone_801 (by decide) ?_
                    refine lv_eqi (pk_rem (a := two) (d := 40) (by omega) (by omega) (by omega)) ?_
                    refine lv_if_ne (tgt := 811) hx hb dL_isDone_802 (by decide) (fun c_23 => ?_) (fun c_23 => ?_)
                    · have c_23 : ¬ (two % 40 = 0) := fun z => c_23 ((nI_eq (a := two % 40) (b := 0) (by omega) (by omega)).mpr z)
                      refine lv_iload hx hb dL_isDone_811 (lv_at hl 9 rfl) ?_
                      refine lv_bipush (v := 40) hx hb dL_isDone_813 (by decide) ?_
                      refine lv_irem hx hb dL_isDone_815 (by decide) ?_
                      refine lv_eqi (pk_rem (a := two) (d := 40) (by omega) (by omega) (by omega)) ?_
                      refine z_calli (va_runS (As := [.ref x, .ref (r 0), .ref (r 4), .int (nI v9), .int (nI (two % 40))]) (rest := []) ⟨hx, hb, hml, hown, hts⟩ (zl_isBought l hl9 D cy base x r 5 B A (by omega) hE hY v9 (two % 40) hv9 (by omega)) (va_cwS 5 hts gL_isDone_L_isBought rfl rfl rfl (by decide +kernel) ⟨Nat.le_of_ble_eq_true rfl, Nat.le_of_ble_eq_true rfl⟩) (z_preS hA hS hH) rfl rfl hl.1 rfl (lv_room (Nat.le_of_ble_eq_true rfl)) dL_isDone_816 ⟨(by show _ ≤ (2900 : Nat); omega), (by show _ ≤ (32500 : Nat); omega)⟩) hS (fun r_k_24 u_k_24 H locs hw_k_24 hH hz_k_24 hS => ?_)
                      obtain ⟨B_k_24, A_k_24⟩ := u_k_24
                      obtain ⟨rfl, hE_k_24, hY_k_24⟩ := hw_k_24
                      have hE_k_24 : JE B_k_24 A_k_24 := hE_k_24
                      have hY_k_24 : JX (N) B_k_24 := hY_k_24
                      have hJ_k_24 := lH_J hH
                      have hn_k_24 : nP B_k_24 ≤ 6 := hE_k_24.1.1
                      exact z_zret hx hb hr hlocks hH hS rfl (⟨rfl, hE_k_24, JX_mono hY_k_24 (by omega)⟩) (by omega) (by omega) dL_isDone_819
                    · have c_23 := (nI_eq (a := two % 40) (b := 0) (by omega) (by omega)).mp c_23
                      refine lv_sipush (v := 1001) hx hb dL_isDone_805 (by decide) ?_
                      refine lv_goto (tgt := 816) hx hb dL_isDone_808 (by decide) ?_
                      refine z_calli (va_runS (As := [.ref x, .ref (r 0), .ref (r 4), .int (nI v9), .int 1001]) (rest := []) ⟨hx, hb, hml, hown, hts⟩ (zl_isBought l hl9 D cy base x r 5 B A (by omega) hE hY v9 1001 hv9 (by omega)) (va_cwS 5 hts gL_isDone_L_isBought rfl rfl rfl (by decide +kernel) ⟨Nat.le_of_ble_eq_true rfl, Nat.le_of_ble_eq_true rfl⟩) (z_preS hA hS hH) rfl rfl hl.1 rfl (lv_room (Nat.le_of_ble_eq_true rfl)) dL_isDone_816 ⟨(by show _ ≤ (2900 : Nat); omega), (by show _ ≤ (32500 : Nat); omega)⟩) hS (fun r_k_25 u_k_25 H locs hw_k_25 hH hz_k_25 hS => ?_)
                      obtain ⟨B_k_25, A_k_25⟩ := u_k_25
                      obtain ⟨rfl, hE_k_25, hY_k_25⟩ := hw_k_25
                      have hE_k_25 : JE B_k_25 A_k_25 := hE_k_25
                      have hY_k_25 : JX (N) B_k_25 := hY_k_25
                      have hJ_k_25 := lH_J hH
                      have hn_k_25 : nP B_k_25 ≤ 6 := hE_k_25.1.1
                      exact z_zret hx hb hr hlocks hH hS rfl (⟨rfl, hE_k_25, JX_mono hY_k_25 (by omega)⟩) (by omega) (by omega) dL_isDone_819
                · have c_11 := (nI_eq (a := wh) (b := 27) (by omega) (by omega)).mp c_11
                  refine lv_iload hx hb dL_isDone_705 (lv_at hl 11 rfl) ?_
                  refine lv_aload hx hb dL_isDone_707 (lv_at hl 6 rfl) ?_
                  refine lv_iconst (v := 1) hx hb dL_isDone_709 (by decide) ?_
                  refine l_iald (f := 4) (v := (nI (nP B))) (by omega) hx hb hA hH 1 rfl (by rw [show lLen 4 = 3 from rfl]; omega) hE.1.2.2.1 dL_isDone_710 ?_
                  refine lv_icmp_ne (tgt := 719) hx hb dL_isDone_711 (by decide) (fun c_26 => ?_) (fun c_26 => ?_)
                  · have c_26 : ¬ (v9 = nP B) := fun z => c_26 ((nI_eq (a := v9) (b := nP B) (by omega) (by omega)).mpr z)
                    have hi : v9 < nP B := by omega
                    have hix : ix (nI v9) = v9 := ix_nI (by omega)
                    refine lv_aload_n hx hb dL_isDone_719 rfl (lv_at hl 2 rfl) ?_
                    refine lv_bipush (v := 10) hx hb dL_isDone_720 (by decide) ?_
                    refine lv_iload hx hb dL_isDone_722 (lv_at hl 11 rfl) ?_
                    refine lv_imul hx hb dL_isDone_724 ?_
                    refine lv_eqi (pk_mul 10 v9) ?_
                    refine lv_iconst (v := 3) hx hb dL_isDone_725 (by decide) ?_
                    refine lv_iadd hx hb dL_isDone_726 ?_
                    refine lv_eqi (nI_add (10 * v9) 3) ?_
                    refine l_iald (f := 0) (v := (B 11 v9)) (by omega) hx hb hA hH (10 * v9 + 3) rfl (by rw [show lLen 0 = 60 from rfl]; omega) (hE.2.1 v9 hi).2.2.2 dL_isDone_727 ?_
                    refine lv_if_ge (tgt := 736) hx hb dL_isDone_728 (by decide) (fun c_27 => ?_) (fun c_27 => ?_)
                    · refine lv_aload_n hx hb dL_isDone_736 rfl (lv_at hl 2 rfl) ?_
                      refine lv_bipush (v := 10) hx hb dL_isDone_737 (by decide) ?_
                      refine lv_iload hx hb dL_isDone_739 (lv_at hl 11 rfl) ?_
                      refine lv_imul hx hb dL_isDone_741 ?_
                      refine lv_eqi (pk_mul 10 v9) ?_
                      refine lv_iconst (v := 3) hx hb dL_isDone_742 (by decide) ?_
                      refine lv_iadd hx hb dL_isDone_743 ?_
                      refine lv_eqi (nI_add (10 * v9) 3) ?_
                      refine l_iald (f := 0) (v := (B 11 v9)) (by omega) hx hb hA hH (10 * v9 + 3) rfl (by rw [show lLen 0 = 60 from rfl]; omega) (hE.2.1 v9 hi).2.2.2 dL_isDone_744 ?_
                      refine lv_istore (lv' := [(13, .int (B 11 v9)), (0, .ref x), (1, .ref b), (3, .ref (r 0)), (4, .ref (r 1)), (5, .ref (r 2)), (6, .ref (r 3)), (7, .ref (r 4)), (8, .int (nI wh)), (9, .int (nI one)), (10, .int (nI two)), (11, .int (nI thr)), (12, .int (nI v9))]) hx hb dL_isDone_745 hl (by decide) rfl (fun ls hl => ?_)
                      refine lv_iload hx hb dL_isDone_747 (lv_at hl 0 rfl) ?_
                      refine lv_if_lt (tgt := 762) hx hb dL_isDone_749 (by decide) (fun c_28 => absurd c_28 (Int32.not_lt.mpr c_27)) (fun _ => ?_)
                      refine lv_aload_n hx hb dL_isDone_752 rfl (lv_at hl 3 rfl) ?_
                      refine lv_bipush (v := 10) hx hb dL_isDone_753 (by decide) ?_
                      refine lv_iload hx hb dL_isDone_755 (lv_at hl 12 rfl) ?_
                      refine lv_imul hx hb dL_isDone_757 ?_
                      refine lv_eqi (pk_mul 10 v9) ?_
                      refine lv_iconst (v := 3) hx hb dL_isDone_758 (by decide) ?_
                      refine lv_iadd hx hb dL_isDone_759 ?_
                      refine lv_eqi (nI_add (10 * v9) 3) ?_
                      refine lv_iconst (v := (-1)) hx hb dL_isDone_760 (by decide) ?_
                      refine l_iast (f := 0) (by omega) hx hb hA hH hS (10 * v9 + 3) rfl (by rw [show lLen 0 = 60 from rfl]; omega) dL_isDone_761 (fun H locs hH hS => ?_)
                      refine lv_aload_n hx hb dL_isDone_762 rfl (lv_at hl 1 rfl) ?_
                      refine lv_bipush (v := 7) hx hb dL_isDone_763 (by decide) ?_
                      refine lv_iload hx hb dL_isDone_765 (lv_at hl 12 rfl) ?_
                      refine lv_iconst (v := 0) hx hb dL_isDone_767 (by decide) ?_
                      refine lv_iconst (v := 0) hx hb dL_isDone_768 (by decide) ?_
                      refine lv_iconst (v := 0) hx hb dL_isDone_769 (by decide) ?_
                      refine z_xcalli (vx_runSX (As := [.ref x, .int 7, .int (nI v9), .int 0, .int 0, .int 0]) (rest := []) ⟨hx, hb, hml, hown, hts⟩ (zd_takeOff l hl9 D cy base x r 5 B (z2 A 0 (10 * v9 + 3) (-1)) (nI v9) 0 0 0) (vx_cwSW 6 hts gL_isDone_L_does rfl rfl rfl (by decide +kernel) ⟨Nat.le_of_ble_eq_true rfl, Nat.le_of_ble_eq_true rfl⟩) (z_preS hA hS hH) rfl rfl hl.1 rfl (lv_room (Nat.le_of_ble_eq_true rfl)) dL_isDone_770 ⟨(by show _ ≤ (2900 : Nat); omega), (by show _ ≤ (32500 : Nat); omega)⟩) hS (fun E9 ce9 q9 u9 H locs hw9 hH hz9 hS hce9 hv9 hcl9 => hw9.elim) (fun r_k_29 u_k_29 H locs hw_k_29 hH hz_k_29 hS => ?_)
                      rcases hw_k_29 with ⟨hc_k_29, rfl, hu_k_29⟩ | ⟨hc_k_29, rfl, hu_k_29⟩ | ⟨hc_k_29, rfl, hu_k_29⟩
                      · rw [hu_k_29] at hH
                        have hJ_k_29 := lH_J hH
                        refine lv_eqi (show an_of B 11 (nI v9) = B 11 v9 from congrArg (B 11) hix) ?_
                        have hE2 := JE_takeOff hE hi hix
                        refine lv_iload hx hb dL_isDone_773 (lv_at hl 0 rfl) ?_
                        refine lv_icmp_ne (tgt := 782) hx hb dL_isDone_775 (by decide) (fun c9 => absurd rfl c9) (fun _ => ?_)
                        refine lv_iconst (v := 1) hx hb dL_isDone_778 (by decide) ?_
                        refine lv_goto (tgt := 783) hx hb dL_isDone_779 (by decide) ?_
                        exact z_zret hx hb hr hlocks hH hS rfl (⟨rfl, hE2, JX_mono (JX_takeOff hY) (by omega)⟩) (by omega) (by omega) dL_isDone_783
                      · exact absurd (hc_k_29.symm.trans (cdOffT0 hJ.1 hi hix ((on_ge hJ.1 hi).1.mp c_27))) (by decide)
                      · exact absurd (hc_k_29.symm.trans (cdOffT0 hJ.1 hi hix ((on_ge hJ.1 hi).1.mp c_27))) (by decide)
                    · refine lv_bipush (v := (-10)) hx hb dL_isDone_731 (by decide) ?_
                      refine lv_goto (tgt := 745) hx hb dL_isDone_733 (by decide) ?_
                      refine lv_istore (lv' := [(13, .int (-10)), (0, .ref x), (1, .ref b), (3, .ref (r 0)), (4, .ref (r 1)), (5, .ref (r 2)), (6, .ref (r 3)), (7, .ref (r 4)), (8, .int (nI wh)), (9, .int (nI one)), (10, .int (nI two)), (11, .int (nI thr)), (12, .int (nI v9))]) hx hb dL_isDone_745 hl (by decide) rfl (fun ls hl => ?_)
                      refine lv_iload hx hb dL_isDone_747 (lv_at hl 0 rfl) ?_
                      refine lv_if_lt (tgt := 762) hx hb dL_isDone_749 (by decide) (fun _ => ?_) (fun c_30 => absurd c_30 (by decide))
                      refine lv_aload_n hx hb dL_isDone_762 rfl (lv_at hl 1 rfl) ?_
                      refine lv_bipush (v := 7) hx hb dL_isDone_763 (by decide) ?_
                      refine lv_iload hx hb dL_isDone_765 (lv_at hl 12 rfl) ?_
                      refine lv_iconst (v := 0) hx hb dL_isDone_767 (by decide) ?_
                      refine lv_iconst (v := 0) hx hb dL_isDone_768 (by decide) ?_
                      refine lv_iconst (v := 0) hx hb dL_isDone_769 (by decide) ?_
                      refine z_xcalli (vx_runSX (As := [.ref x, .int 7, .int (nI v9), .int 0, .int 0, .int 0]) (rest := []) ⟨hx, hb, hml, hown, hts⟩ (zx_takeOff_2 l hl9 D cy base x r 5 B A (nI v9) 0 0 0 (cdOffT2 hJ.1 hi hix (Classical.not_not.mp (fun z => c_27 ((on_ge hJ.1 hi).1.mpr z))))) (vx_cwSW 6 hts gL_isDone_L_does rfl rfl rfl (by decide +kernel) ⟨Nat.le_of_ble_eq_true rfl, Nat.le_of_ble_eq_true rfl⟩) (z_preS hA hS hH) rfl rfl hl.1 rfl (lv_room (Nat.le_of_ble_eq_true rfl)) dL_isDone_770 ⟨(by show _ ≤ (2900 : Nat); omega), (by show _ ≤ (32500 : Nat); omega)⟩) hS (fun E9 ce9 q9 u9 H locs hw9 hH hz9 hS hce9 hv9 hcl9 => hw9.elim) (fun r_k_31 u_k_31 H locs hw_k_31 hH hz_k_31 hS => ?_)
                      obtain ⟨rfl, hu_k_31⟩ := hw_k_31
                      rw [hu_k_31] at hH
                      refine lv_iload hx hb dL_isDone_773 (lv_at hl 0 rfl) ?_
                      refine lv_icmp_ne (tgt := 782) hx hb dL_isDone_775 (by decide) (fun c_32 => absurd c_32 (by decide)) (fun _ => ?_)
                      refine lv_iconst (v := 1) hx hb dL_isDone_778 (by decide) ?_
                      refine lv_goto (tgt := 783) hx hb dL_isDone_779 (by decide) ?_
                      exact z_zret hx hb hr hlocks hH hS rfl (⟨rfl, hE, JX_mono hY (by omega)⟩) (by omega) (by omega) dL_isDone_783
                  · have c_26 := (nI_eq (a := v9) (b := nP B) (by omega) (by omega)).mp c_26
                    refine lv_bipush (v := (-30)) hx hb dL_isDone_714 (by decide) ?_
                    refine lv_goto (tgt := 745) hx hb dL_isDone_716 (by decide) ?_
                    refine lv_istore (lv' := [(13, .int (-30)), (0, .ref x), (1, .ref b), (3, .ref (r 0)), (4, .ref (r 1)), (5, .ref (r 2)), (6, .ref (r 3)), (7, .ref (r 4)), (8, .int (nI wh)), (9, .int (nI one)), (10, .int (nI two)), (11, .int (nI thr)), (12, .int (nI v9))]) hx hb dL_isDone_745 hl (by decide) rfl (fun ls hl => ?_)
                    refine lv_iload hx hb dL_isDone_747 (lv_at hl 0 rfl) ?_
                    refine lv_if_lt (tgt := 762) hx hb dL_isDone_749 (by decide) (fun _ => ?_) (fun c_33 => absurd c_33 (by decide))
                    refine lv_aload_n hx hb dL_isDone_762 rfl (lv_at hl 1 rfl) ?_
                    refine lv_bipush (v := 7) hx hb dL_isDone_763 (by decide) ?_
                    refine lv_iload hx hb dL_isDone_765 (lv_at hl 12 rfl) ?_
                    refine lv_iconst (v := 0) hx hb dL_isDone_767 (by decide) ?_
                    refine lv_iconst (v := 0) hx hb dL_isDone_768 (by decide) ?_
                    refine lv_iconst (v := 0) hx hb dL_isDone_769 (by decide) ?_
                    refine z_xcalli (vx_runSX (As := [.ref x, .int 7, .int (nI v9), .int 0, .int 0, .int 0]) (rest := []) ⟨hx, hb, hml, hown, hts⟩ (zx_takeOff_1 l hl9 D cy base x r 5 B A (nI v9) 0 0 0 (cdOffT1 hJ.1 (by omega) (by omega))) (vx_cwSW 6 hts gL_isDone_L_does rfl rfl rfl (by decide +kernel) ⟨Nat.le_of_ble_eq_true rfl, Nat.le_of_ble_eq_true rfl⟩) (z_preS hA hS hH) rfl rfl hl.1 rfl (lv_room (Nat.le_of_ble_eq_true rfl)) dL_isDone_770 ⟨(by show _ ≤ (2900 : Nat); omega), (by show _ ≤ (32500 : Nat); omega)⟩) hS (fun E9 ce9 q9 u9 H locs hw9 hH hz9 hS hce9 hv9 hcl9 => hw9.elim) (fun r_k_34 u_k_34 H locs hw_k_34 hH hz_k_34 hS => ?_)
                    obtain ⟨rfl, hu_k_34⟩ := hw_k_34
                    rw [hu_k_34] at hH
                    refine lv_iload hx hb dL_isDone_773 (lv_at hl 0 rfl) ?_
                    refine lv_icmp_ne (tgt := 782) hx hb dL_isDone_775 (by decide) (fun c_35 => absurd c_35 (by decide)) (fun _ => ?_)
                    refine lv_iconst (v := 1) hx hb dL_isDone_778 (by decide) ?_
                    refine lv_goto (tgt := 783) hx hb dL_isDone_779 (by decide) ?_
                    exact z_zret hx hb hr hlocks hH hS rfl (⟨rfl, hE, JX_mono hY (by omega)⟩) (by omega) (by omega) dL_isDone_783
              · have c_10 : ¬ (27 ≤ wh) := fun z => c_10 ((nI_leI (a := 27) (b := wh) (by omega) (by omega)).mpr z)
                refine lv_aload_n hx hb dL_isDone_675 rfl (lv_at hl 0 rfl) ?_
                refine lv_aload_n hx hb dL_isDone_676 rfl (lv_at hl 2 rfl) ?_
                refine lv_aload hx hb dL_isDone_677 (lv_at hl 3 rfl) ?_
                refine lv_aload hx hb dL_isDone_679 (lv_at hl 4 rfl) ?_
                refine lv_aload hx hb dL_isDone_681 (lv_at hl 6 rfl) ?_
                refine lv_iload hx hb dL_isDone_683 (lv_at hl 11 rfl) ?_
                refine lv_iload hx hb dL_isDone_685 (lv_at hl 9 rfl) ?_
                refine lv_aload hx hb dL_isDone_687 (lv_at hl 6 rfl) ?_
                refine lv_iconst (v := 2) hx hb dL_isDone_689 (by decide) ?_
                refine l_iald (f := 4) (v := (nI (nO B))) (by omega) hx hb hA hH 2 rfl (by rw [show lLen 4 = 3 from rfl]; omega) hE.1.2.2.2 dL_isDone_690 ?_
                refine lv_iconst (v := 1) hx hb dL_isDone_691 (by decide) ?_
                refine lv_iadd hx hb dL_isDone_692 ?_
                refine lv_eqi (nI_add (nO B) 1) ?_
                refine lv_irem hx hb dL_isDone_693 (nI_ne0 (by omega) (by omega)) ?_
                refine lv_eqi (pk_rem (a := two) (d := nO B + 1) (by omega) (by omega) (by omega)) ?_
                refine z_calli (va_runS (As := [.ref x, .ref (r 0), .ref (r 1), .ref (r 2), .ref (r 4), .int (nI v9), .int (nI (two % (nO B + 1)))]) (rest := []) ⟨hx, hb, hml, hown, hts⟩ (zl_isAssigned l hl9 D cy base x r 5 B A (by omega) hE hY v9 (two % (nO B + 1)) hv9 (Nat.le_of_lt_succ (Nat.mod_lt _ (by omega)))) (va_cwS 7 hts gL_isDone_L_isAssigned rfl rfl rfl (by decide +kernel) ⟨Nat.le_of_ble_eq_true rfl, Nat.le_of_ble_eq_true rfl⟩) (z_preS hA hS hH) rfl rfl hl.1 rfl (lv_room (Nat.le_of_ble_eq_true rfl)) dL_isDone_694 ⟨(by show _ ≤ (2900 : Nat); omega), (by show _ ≤ (32500 : Nat); omega)⟩) hS (fun r_k_36 u_k_36 H locs hw_k_36 hH hz_k_36 hS => ?_)
                obtain ⟨B_k_36, A_k_36⟩ := u_k_36
                obtain ⟨rfl, hE_k_36, hY_k_36⟩ := hw_k_36
                have hE_k_36 : JE B_k_36 A_k_36 := hE_k_36
                have hY_k_36 : JX (N) B_k_36 := hY_k_36
                have hJ_k_36 := lH_J hH
                have hn_k_36 : nP B_k_36 ≤ 6 := hE_k_36.1.1
                exact z_zret hx hb hr hlocks hH hS rfl (⟨rfl, hE_k_36, JX_mono hY_k_36 (by omega)⟩) (by omega) (by omega) dL_isDone_697
            · have c_9 : ¬ (19 ≤ wh) := fun z => c_9 ((nI_leI (a := 19) (b := wh) (by omega) (by omega)).mpr z)
              refine lv_iload hx hb dL_isDone_482 (lv_at hl 8 rfl) ?_
              refine lv_iconst (v := 5) hx hb dL_isDone_484 (by decide) ?_
              refine lv_irem hx hb dL_isDone_485 (by decide) ?_
              refine lv_eqi (pk_rem (a := one) (d := 5) (by omega) (by omega) (by omega)) ?_
              refine lv_istore (lv' := [(13, .int (nI (one % 5))), (0, .ref x), (1, .ref b), (3, .ref (r 0)), (4, .ref (r 1)), (5, .ref (r 2)), (6, .ref (r 3)), (7, .ref (r 4)), (8, .int (nI wh)), (9, .int (nI one)), (10, .int (nI two)), (11, .int (nI thr)), (12, .int (nI v9))]) hx hb dL_isDone_486 hl (by decide) rfl (fun ls hl => ?_)
              refine lv_iload hx hb dL_isDone_488 (lv_at hl 10 rfl) ?_
              refine lv_iconst (v := 4) hx hb dL_isDone_490 (by decide) ?_
              refine lv_irem hx hb dL_isDone_491 (by decide) ?_
              refine lv_eqi (pk_rem (a := two) (d := 4) (by omega) (by omega) (by omega)) ?_
              refine lv_istore (lv' := [(14, .int (nI (two % 4))), (13, .int (nI (one % 5))), (0, .ref x), (1, .ref b), (3, .ref (r 0)), (4, .ref (r 1)), (5, .ref (r 2)), (6, .ref (r 3)), (7, .ref (r 4)), (8, .int (nI wh)), (9, .int (nI one)), (10, .int (nI two)), (11, .int (nI thr)), (12, .int (nI v9))]) hx hb dL_isDone_492 hl (by decide) rfl (fun ls hl => ?_)
              refine lv_iload hx hb dL_isDone_494 (lv_at hl 12 rfl) ?_
              refine lv_bipush (v := 30) hx hb dL_isDone_496 (by decide) ?_
              refine lv_irem hx hb dL_isDone_498 (by decide) ?_
              refine lv_eqi (pk_rem (a := thr) (d := 30) (by omega) (by omega) (by omega)) ?_
              refine lv_if_ne (tgt := 508) hx hb dL_isDone_499 (by decide) (fun c_37 => ?_) (fun c_37 => ?_)
              · have c_37 : ¬ (thr % 30 = 0) := fun z => c_37 ((nI_eq (a := thr % 30) (b := 0) (by omega) (by omega)).mpr z)
                refine lv_iconst (v := 1) hx hb dL_isDone_508 (by decide) ?_
                refine lv_iload hx hb dL_isDone_509 (lv_at hl 12 rfl) ?_
                refine lv_bipush (v := 12) hx hb dL_isDone_511 (by decide) ?_
                refine lv_irem hx hb dL_isDone_513 (by decide) ?_
                refine lv_eqi (pk_rem (a := thr) (d := 12) (by omega) (by omega) (by omega)) ?_
                refine lv_iadd hx hb dL_isDone_514 ?_
                refine lv_eqi (nI_add 1 (thr % 12)) ?_
                refine lv_istore (lv' := [(15, .int (nI (1 + (thr % 12)))), (14, .int (nI (two % 4))), (13, .int (nI (one % 5))), (0, .ref x), (1, .ref b), (3, .ref (r 0)), (4, .ref (r 1)), (5, .ref (r 2)), (6, .ref (r 3)), (7, .ref (r 4)), (8, .int (nI wh)), (9, .int (nI one)), (10, .int (nI two)), (11, .int (nI thr)), (12, .int (nI v9))]) hx hb dL_isDone_515 hl (by decide) rfl (fun ls hl => ?_)
                refine lv_iload hx hb dL_isDone_517 (lv_at hl 12 rfl) ?_
                refine lv_iconst (v := 4) hx hb dL_isDone_519 (by decide) ?_
                refine lv_idiv hx hb dL_isDone_520 (by decide) ?_
                refine lv_eqi (pk_div (a := two) (d := 4) (by omega) (by omega) (by omega)) ?_
                refine lv_sipush (v := 130) hx hb dL_isDone_521 (by decide) ?_
                refine lv_irem hx hb dL_isDone_524 (by decide) ?_
                refine lv_eqi (pk_rem (a := two / 4) (d := 130) (by omega) (by omega) (by omega)) ?_
                refine lv_istore (lv' := [(16, .int (nI ((two / 4) % 130))), (15, .int (nI (1 + (thr % 12)))), (14, .int (nI (two % 4))), (13, .int (nI (one % 5))), (0, .ref x), (1, .ref b), (3, .ref (r 0)), (4, .ref (r 1)), (5, .ref (r 2)), (6, .ref (r 3)), (7, .ref (r 4)), (8, .int (nI wh)), (9, .int (nI one)), (10, .int (nI two)), (11, .int (nI thr)), (12, .int (nI v9))]) hx hb dL_isDone_525 hl (by decide) rfl (fun ls hl => ?_)
                refine lv_iload hx hb dL_isDone_527 (lv_at hl 3 rfl) ?_
                refine lv_iconst (v := 4) hx hb dL_isDone_529 (by decide) ?_
                refine lv_icmp_ge (tgt := 543) hx hb dL_isDone_530 (by decide) (fun c_38 => ?_) (fun c_38 => ?_)
                · have c_38 := (nI_leI (a := 4) (b := one % 5) (by omega) (by omega)).mp c_38
                  refine lv_iconst (v := 0) hx hb dL_isDone_543 (by decide) ?_
                  refine lv_istore (lv' := [(17, .int 0), (16, .int (nI ((two / 4) % 130))), (15, .int (nI (1 + (thr % 12)))), (14, .int (nI (two % 4))), (13, .int (nI (one % 5))), (0, .ref x), (1, .ref b), (3, .ref (r 0)), (4, .ref (r 1)), (5, .ref (r 2)), (6, .ref (r 3)), (7, .ref (r 4)), (8, .int (nI wh)), (9, .int (nI one)), (10, .int (nI two)), (11, .int (nI thr)), (12, .int (nI v9))]) hx hb dL_isDone_544 hl (by decide) rfl (fun ls hl => ?_)
                  refine lv_iload hx hb dL_isDone_546 (lv_at hl 0 rfl) ?_
                  refine lv_if_ne (tgt := 556) hx hb dL_isDone_548 (by decide) (fun c_39 => absurd c_39 (by decide)) (fun _ => ?_)
                  refine lv_bipush (v := (-30)) hx hb dL_isDone_551 (by decide) ?_
                  refine lv_goto (tgt := 587) hx hb dL_isDone_553 (by decide) ?_
                  refine lv_istore (lv' := [(18, .int (-30)), (17, .int 0), (16, .int (nI ((two / 4) % 130))), (15, .int (nI (1 + (thr % 12)))), (14, .int (nI (two % 4))), (13, .int (nI (one % 5))), (0, .ref x), (1, .ref b), (3, .ref (r 0)), (4, .ref (r 1)), (5, .ref (r 2)), (6, .ref (r 3)), (7, .ref (r 4)), (8, .int (nI wh)), (9, .int (nI one)), (10, .int (nI two)), (11, .int (nI thr)), (12, .int (nI v9))]) hx hb dL_isDone_587 hl (by decide) rfl (fun ls hl => ?_)
                  refine lv_iload hx hb dL_isDone_589 (lv_at hl 0 rfl) ?_
                  refine lv_if_lt (tgt := 644) hx hb dL_isDone_591 (by decide) (fun _ => ?_) (fun c_40 => absurd c_40 (by decide))
                  refine lv_aload_n hx hb dL_isDone_644 rfl (lv_at hl 6 rfl) ?_
                  refine lv_iconst (v := 5) hx hb dL_isDone_645 (by decide) ?_
                  refine lv_iload hx hb dL_isDone_646 (lv_at hl 5 rfl) ?_
                  refine lv_iload hx hb dL_isDone_648 (lv_at hl 4 rfl) ?_
                  refine lv_iload hx hb dL_isDone_650 (lv_at hl 3 rfl) ?_
                  refine lv_iload hx hb dL_isDone_652 (lv_at hl 2 rfl) ?_
                  refine z_xcalli (vx_runSX (As := [.ref x, .int 5, .int (nI (one % 5)), .int (nI (two % 4)), .int (nI (1 + (thr % 12))), .int (nI ((two / 4) % 130))]) (rest := []) ⟨hx, hb, hml, hown, hts⟩ (zx_addOrder_1 l hl9 D cy base x r 5 B A (nI (one % 5)) (nI (two % 4)) (nI (1 + (thr % 12))) (nI ((two / 4) % 130)) (cdOrd1 (a := one % 5) (k := two % 4) hJ.1 (by omega) (by omega) (by omega))) (vx_cwSW 6 hts gL_isDone_L_does rfl rfl rfl (by decide +kernel) ⟨Nat.le_of_ble_eq_true rfl, Nat.le_of_ble_eq_true rfl⟩) (z_preS hA hS hH) rfl rfl hl.1 rfl (lv_room (Nat.le_of_ble_eq_true rfl)) dL_isDone_654 ⟨(by show _ ≤ (2900 : Nat); omega), (by show _ ≤ (32500 : Nat); omega)⟩) hS (fun E9 ce9 q9 u9 H locs hw9 hH hz9 hS hce9 hv9 hcl9 => hw9.elim) (fun r_k_41 u_k_41 H locs hw_k_41 hH hz_k_41 hS => ?_)
                  obtain ⟨rfl, hu_k_41⟩ := hw_k_41
                  rw [hu_k_41] at hH
                  refine lv_iload hx hb dL_isDone_657 (lv_at hl 0 rfl) ?_
                  refine lv_icmp_ne (tgt := 666) hx hb dL_isDone_659 (by decide) (fun c_42 => absurd c_42 (by decide)) (fun _ => ?_)
                  refine lv_iconst (v := 1) hx hb dL_isDone_662 (by decide) ?_
                  refine lv_goto (tgt := 667) hx hb dL_isDone_663 (by decide) ?_
                  exact z_zret hx hb hr hlocks hH hS rfl (⟨rfl, hE, JX_mono hY (by omega)⟩) (by omega) (by omega) dL_isDone_667
                · have c_38 : ¬ (4 ≤ one % 5) := fun z => c_38 ((nI_leI (a := 4) (b := one % 5) (by omega) (by omega)).mpr z)
                  refine lv_iload hx hb dL_isDone_533 (lv_at hl 2 rfl) ?_
                  refine lv_iconst (v := 3) hx hb dL_isDone_535 (by decide) ?_
                  refine lv_icmp_ge (tgt := 543) hx hb dL_isDone_536 (by decide) (fun c_43 => ?_) (fun c_43 => ?_)
                  · have c_43 := (nI_leI (a := 3) (b := two % 4) (by omega) (by omega)).mp c_43
                    refine lv_iconst (v := 0) hx hb dL_isDone_543 (by decide) ?_
                    refine lv_istore (lv' := [(17, .int 0), (16, .int (nI ((two / 4) % 130))), (15, .int (nI (1 + (thr % 12)))), (14, .int (nI (two % 4))), (13, .int (nI (one % 5))), (0, .ref x), (1, .ref b), (3, .ref (r 0)), (4, .ref (r 1)), (5, .ref (r 2)), (6, .ref (r 3)), (7, .ref (r 4)), (8, .int (nI wh)), (9, .int (nI one)), (10, .int (nI two)), (11, .int (nI thr)), (12, .int (nI v9))]) hx hb dL_isDone_544 hl (by decide) rfl (fun ls hl => ?_)
                    refine lv_iload hx hb dL_isDone_546 (lv_at hl 0 rfl) ?_
                    refine lv_if_ne (tgt := 556) hx hb dL_isDone_548 (by decide) (fun c_44 => absurd c_44 (by decide)) (fun _ => ?_)
                    refine lv_bipush (v := (-30)) hx hb dL_isDone_551 (by decide) ?_
                    refine lv_goto (tgt := 587) hx hb dL_isDone_553 (by decide) ?_
                    refine lv_istore (lv' := [(18, .int (-30)), (17, .int 0), (16, .int (nI ((two / 4) % 130))), (15, .int (nI (1 + (thr % 12)))), (14, .int (nI (two % 4))), (13, .int (nI (one % 5))), (0, .ref x), (1, .ref b), (3, .ref (r 0)), (4, .ref (r 1)), (5, .ref (r 2)), (6, .ref (r 3)), (7, .ref (r 4)), (8, .int (nI wh)), (9, .int (nI one)), (10, .int (nI two)), (11, .int (nI thr)), (12, .int (nI v9))]) hx hb dL_isDone_587 hl (by decide) rfl (fun ls hl => ?_)
                    refine lv_iload hx hb dL_isDone_589 (lv_at hl 0 rfl) ?_
                    refine lv_if_lt (tgt := 644) hx hb dL_isDone_591 (by decide) (fun _ => ?_) (fun c_45 => absurd c_45 (by decide))
                    refine lv_aload_n hx hb dL_isDone_644 rfl (lv_at hl 6 rfl) ?_
                    refine lv_iconst (v := 5) hx hb dL_isDone_645 (by decide) ?_
                    refine lv_iload hx hb dL_isDone_646 (lv_at hl 5 rfl) ?_
                    refine lv_iload hx hb dL_isDone_648 (lv_at hl 4 rfl) ?_
                    refine lv_iload hx hb dL_isDone_650 (lv_at hl 3 rfl) ?_
                    refine lv_iload hx hb dL_isDone_652 (lv_at hl 2 rfl) ?_
                    refine z_xcalli (vx_runSX (As := [.ref x, .int 5, .int (nI (one % 5)), .int (nI (two % 4)), .int (nI (1 + (thr % 12))), .int (nI ((two / 4) % 130))]) (rest := []) ⟨hx, hb, hml, hown, hts⟩ (zx_addOrder_1 l hl9 D cy base x r 5 B A (nI (one % 5)) (nI (two % 4)) (nI (1 + (thr % 12))) (nI ((two / 4) % 130)) (cdOrd1 (a := one % 5) (k := two % 4) hJ.1 (by omega) (by omega) (by omega))) (vx_cwSW 6 hts gL_isDone_L_does rfl rfl rfl (by decide +kernel) ⟨Nat.le_of_ble_eq_true rfl, Nat.le_of_ble_eq_true rfl⟩) (z_preS hA hS hH) rfl rfl hl.1 rfl (lv_room (Nat.le_of_ble_eq_true rfl)) dL_isDone_654 ⟨(by show _ ≤ (2900 : Nat); omega), (by show _ ≤ (32500 : Nat); omega)⟩) hS (fun E9 ce9 q9 u9 H locs hw9 hH hz9 hS hce9 hv9 hcl9 => hw9.elim) (fun r_k_46 u_k_46 H locs hw_k_46 hH hz_k_46 hS => ?_)
                    obtain ⟨rfl, hu_k_46⟩ := hw_k_46
                    rw [hu_k_46] at hH
                    refine lv_iload hx hb dL_isDone_657 (lv_at hl 0 rfl) ?_
                    refine lv_icmp_ne (tgt := 666) hx hb dL_isDone_659 (by decide) (fun c_47 => absurd c_47 (by decide)) (fun _ => ?_)
                    refine lv_iconst (v := 1) hx hb dL_isDone_662 (by decide) ?_
                    refine lv_goto (tgt := 667) hx hb dL_isDone_663 (by decide) ?_
                    exact z_zret hx hb hr hlocks hH hS rfl (⟨rfl, hE, JX_mono hY (by omega)⟩) (by omega) (by omega) dL_isDone_667
                  · have c_43 : ¬ (3 ≤ two % 4) := fun z => c_43 ((nI_leI (a := 3) (b := two % 4) (by omega) (by omega)).mpr z)
                    refine lv_iconst (v := 1) hx hb dL_isDone_539 (by decide) ?_
                    refine lv_goto (tgt := 544) hx hb dL_isDone_540 (by decide) ?_
                    refine lv_istore (lv' := [(17, .int 1), (16, .int (nI ((two / 4) % 130))), (15, .int (nI (1 + (thr % 12)))), (14, .int (nI (two % 4))), (13, .int (nI (one % 5))), (0, .ref x), (1, .ref b), (3, .ref (r 0)), (4, .ref (r 1)), (5, .ref (r 2)), (6, .ref (r 3)), (7, .ref (r 4)), (8, .int (nI wh)), (9, .int (nI one)), (10, .int (nI two)), (11, .int (nI thr)), (12, .int (nI v9))]) hx hb dL_isDone_544 hl (by decide) rfl (fun ls hl => ?_)
                    refine lv_iload hx hb dL_isDone_546 (lv_at hl 0 rfl) ?_
                    refine lv_if_ne (tgt := 556) hx hb dL_isDone_548 (by decide) (fun _ => ?_) (fun c_48 => absurd c_48 (by decide))
                    refine lv_iload hx hb dL_isDone_556 (lv_at hl 2 rfl) ?_
                    refine lv_sipush (v := 500) hx hb dL_isDone_558 (by decide) ?_
                    refine lv_icmp_le (tgt := 569) hx hb dL_isDone_561 (by decide) (fun _ => ?_) (fun c_49 => absurd ((nI_leI (a := 1 + (thr % 12)) (b := 500) (by omega) (by omega)).mpr (by omega)) c_49)
                    refine lv_aload hx hb dL_isDone_569 (lv_at hl 11 rfl) ?_
                    refine lv_iconst (v := 2) hx hb dL_isDone_571 (by decide) ?_
                    refine l_iald (f := 4) (v := (nI (nO B))) (by omega) hx hb hA hH 2 rfl (by rw [show lLen 4 = 3 from rfl]; omega) hE.1.2.2.2 dL_isDone_572 ?_
                    refine lv_bipush (v := 8) hx hb dL_isDone_573 (by decide) ?_
                    refine lv_icmp_ne (tgt := 583) hx hb dL_isDone_575 (by decide) (fun c_50 => ?_) (fun c_50 => ?_)
                    · have c_50 : ¬ (nO B = 8) := fun z => c_50 ((nI_eq (a := nO B) (b := 8) (by omega) (by omega)).mpr z)
                      refine lv_aload hx hb dL_isDone_583 (lv_at hl 11 rfl) ?_
                      refine lv_iconst (v := 2) hx hb dL_isDone_585 (by decide) ?_
                      refine l_iald (f := 4) (v := (nI (nO B))) (by omega) hx hb hA hH 2 rfl (by rw [show lLen 4 = 3 from rfl]; omega) hE.1.2.2.2 dL_isDone_586 ?_
                      refine lv_istore (lv' := [(18, .int (nI (nO B))), (17, .int 1), (16, .int (nI ((two / 4) % 130))), (15, .int (nI (1 + (thr % 12)))), (14, .int (nI (two % 4))), (13, .int (nI (one % 5))), (0, .ref x), (1, .ref b), (3, .ref (r 0)), (4, .ref (r 1)), (5, .ref (r 2)), (6, .ref (r 3)), (7, .ref (r 4)), (8, .int (nI wh)), (9, .int (nI one)), (10, .int (nI two)), (11, .int (nI thr)), (12, .int (nI v9))]) hx hb dL_isDone_587 hl (by decide) rfl (fun ls hl => ?_)
                      refine lv_iload hx hb dL_isDone_589 (lv_at hl 0 rfl) ?_
                      refine lv_if_lt (tgt := 644) hx hb dL_isDone_591 (by decide) (fun c_51 => absurd ((nI_ltI (a := nO B) (b := 0) (by omega) (by omega)).mp c_51) (by omega)) (fun _ => ?_)
                      refine lv_aload hx hb dL_isDone_594 (lv_at hl 9 rfl) ?_
                      refine lv_iconst (v := 4) hx hb dL_isDone_596 (by decide) ?_
                      refine lv_iload hx hb dL_isDone_597 (lv_at hl 0 rfl) ?_
                      refine lv_imul hx hb dL_isDone_599 ?_
                      refine lv_eqi (pk_mul 4 (nO B)) ?_
                      refine lv_iload hx hb dL_isDone_600 (lv_at hl 5 rfl) ?_
                      refine l_iast (f := 1) (by omega) hx hb hA hH hS (4 * nO B) rfl (by rw [show lLen 1 = 32 from rfl]; omega) dL_isDone_602 (fun H locs hH hS => ?_)
                      refine lv_aload hx hb dL_isDone_603 (lv_at hl 9 rfl) ?_
                      refine lv_iconst (v := 4) hx hb dL_isDone_605 (by decide) ?_
                      refine lv_iload hx hb dL_isDone_606 (lv_at hl 0 rfl) ?_
                      refine lv_imul hx hb dL_isDone_608 ?_
                      refine lv_eqi (pk_mul 4 (nO B)) ?_
                      refine lv_iconst (v := 1) hx hb dL_isDone_609 (by decide) ?_
                      refine lv_iadd hx hb dL_isDone_610 ?_
                      refine lv_eqi (nI_add (4 * nO B) 1) ?_
                      refine lv_iload hx hb dL_isDone_611 (lv_at hl 4 rfl) ?_
                      refine l_iast (f := 1) (by omega) hx hb hA hH hS (4 * nO B + 1) rfl (by rw [show lLen 1 = 32 from rfl]; omega) dL_isDone_613 (fun H locs hH hS => ?_)
                      refine lv_aload hx hb dL_isDone_614 (lv_at hl 9 rfl) ?_
                      refine lv_iconst (v := 4) hx hb dL_isDone_616 (by decide) ?_
                      refine lv_iload hx hb dL_isDone_617 (lv_at hl 0 rfl) ?_
                      refine lv_imul hx hb dL_isDone_619 ?_
                      refine lv_eqi (pk_mul 4 (nO B)) ?_
                      refine lv_iconst (v := 2) hx hb dL_isDone_620 (by decide) ?_
                      refine lv_iadd hx hb dL_isDone_621 ?_
                      refine lv_eqi (nI_add (4 * nO B) 2) ?_
                      refine lv_iload hx hb dL_isDone_622 (lv_at hl 3 rfl) ?_
                      refine l_iast (f := 1) (by omega) hx hb hA hH hS (4 * nO B + 2) rfl (by rw [show lLen 1 = 32 from rfl]; omega) dL_isDone_624 (fun H locs hH hS => ?_)
                      refine lv_aload hx hb dL_isDone_625 (lv_at hl 9 rfl) ?_
                      refine lv_iconst (v := 4) hx hb dL_isDone_627 (by decide) ?_
                      refine lv_iload hx hb dL_isDone_628 (lv_at hl 0 rfl) ?_
                      refine lv_imul hx hb dL_isDone_630 ?_
                      refine lv_eqi (pk_mul 4 (nO B)) ?_
                      refine lv_iconst (v := 3) hx hb dL_isDone_631 (by decide) ?_
                      refine lv_iadd hx hb dL_isDone_632 ?_
                      refine lv_eqi (nI_add (4 * nO B) 3) ?_
                      refine lv_iload hx hb dL_isDone_633 (lv_at hl 2 rfl) ?_
                      refine l_iast (f := 1) (by omega) hx hb hA hH hS (4 * nO B + 3) rfl (by rw [show lLen 1 = 32 from rfl]; omega) dL_isDone_635 (fun H locs hH hS => ?_)
                      refine lv_aload hx hb dL_isDone_636 (lv_at hl 12 rfl) ?_
                      refine lv_iconst (v := 2) hx hb dL_isDone_638 (by decide) ?_
                      refine lv_dup2_11 hx hb dL_isDone_639 rfl rfl ?_
                      refine l_iald (f := 4) (v := (nI (nO B))) (by omega) hx hb hA hH 2 rfl (by rw [show lLen 4 = 3 from rfl]; omega) hE.1.2.2.2 dL_isDone_640 ?_
                      refine lv_iconst (v := 1) hx hb dL_isDone_641 (by decide) ?_
                      refine lv_iadd hx hb dL_isDone_642 ?_
                      refine lv_eqi (nI_add (nO B) 1) ?_
                      refine l_iast (f := 4) (by omega) hx hb hA hH hS 2 rfl (by rw [show lLen 4 = 3 from rfl]; omega) dL_isDone_643 (fun H locs hH hS => ?_)
                      refine lv_aload_n hx hb dL_isDone_644 rfl (lv_at hl 6 rfl) ?_
                      refine lv_iconst (v := 5) hx hb dL_isDone_645 (by decide) ?_
                      refine lv_iload hx hb dL_isDone_646 (lv_at hl 5 rfl) ?_
                      refine lv_iload hx hb dL_isDone_648 (lv_at hl 4 rfl) ?_
                      refine lv_iload hx hb dL_isDone_650 (lv_at hl 3 rfl) ?_
                      refine lv_iload hx hb dL_isDone_652 (lv_at hl 2 rfl) ?_
                      refine z_xcalli (vx_runSX (As := [.ref x, .int 5, .int (nI (one % 5)), .int (nI (two % 4)), .int (nI (1 + (thr % 12))), .int (nI ((two / 4) % 130))]) (rest := []) ⟨hx, hb, hml, hown, hts⟩ (zd_addOrder l hl9 D cy base x r 5 B (z2 (z2 (z2 (z2 (z2 A 1 (4 * nO B) (nI (one % 5))) 1 (4 * nO B + 1) (nI (two % 4))) 1 (4 * nO B + 2) (nI (1 + (thr % 12)))) 1 (4 * nO B + 3) (nI ((two / 4) % 130))) 4 2 (nI (nO B + 1))) (nI (one % 5)) (nI (two % 4)) (nI (1 + (thr % 12))) (nI ((two / 4) % 130))) (vx_cwSW 6 hts gL_isDone_L_does rfl rfl rfl (by decide +kernel) ⟨Nat.le_of_ble_eq_true rfl, Nat.le_of_ble_eq_true rfl⟩) (z_preS hA hS hH) rfl rfl hl.1 rfl (lv_room (Nat.le_of_ble_eq_true rfl)) dL_isDone_654 ⟨(by show _ ≤ (2900 : Nat); omega), (by show _ ≤ (32500 : Nat); omega)⟩) hS (fun E9 ce9 q9 u9 H locs hw9 hH hz9 hS hce9 hv9 hcl9 => hw9.elim) (fun r_k_52 u_k_52 H locs hw_k_52 hH hz_k_52 hS => ?_)
                      rcases hw_k_52 with ⟨hc_k_52, rfl, hu_k_52⟩ | ⟨hc_k_52, rfl, hu_k_52⟩ | ⟨hc_k_52, rfl, hu_k_52⟩ | ⟨hc_k_52, rfl, hu_k_52⟩
                      · rw [hu_k_52] at hH
                        have hJ_k_52 := lH_J hH
                        refine lv_eqi (show an_addOrder B = nI (nO B) by unfold an_addOrder; rw [i32_11]; exact hJ.1.2.1.2) ?_
                        have hE2 := JE_addOrder (s9 := one % 5) (k9 := two % 4) (w9 := 1 + (thr % 12)) (g9 := (two / 4) % 130) hE hJ.1 (by omega) (by omega)
                        refine lv_iload hx hb dL_isDone_657 (lv_at hl 0 rfl) ?_
                        refine lv_icmp_ne (tgt := 666) hx hb dL_isDone_659 (by decide) (fun c9 => absurd rfl c9) (fun _ => ?_)
                        refine lv_iconst (v := 1) hx hb dL_isDone_662 (by decide) ?_
                        refine lv_goto (tgt := 667) hx hb dL_isDone_663 (by decide) ?_
                        exact z_zret hx hb hr hlocks hH hS rfl (⟨rfl, hE2, JX_mono (JX_ord hY) (by omega)⟩) (by omega) (by omega) dL_isDone_667
                      · exact absurd (hc_k_52.symm.trans (cdOrd0 (a := one % 5) (k := two % 4) (w := 1 + (thr % 12)) (g := (two / 4) % 130) hJ.1 (by omega) (by omega) (by omega) (by omega) (by omega) c_50)) (by decide)
                      · exact absurd (hc_k_52.symm.trans (cdOrd0 (a := one % 5) (k := two % 4) (w := 1 + (thr % 12)) (g := (two / 4) % 130) hJ.1 (by omega) (by omega) (by omega) (by omega) (by omega) c_50)) (by decide)
                      · exact absurd (hc_k_52.symm.trans (cdOrd0 (a := one % 5) (k := two % 4) (w := 1 + (thr % 12)) (g := (two / 4) % 130) hJ.1 (by omega) (by omega) (by omega) (by omega) (by omega) c_50)) (by decide)
                    · have c_50 := (nI_eq (a := nO B) (b := 8) (by omega) (by omega)).mp c_50
                      refine lv_bipush (v := (-10)) hx hb dL_isDone_578 (by decide) ?_
                      refine lv_goto (tgt := 587) hx hb dL_isDone_580 (by decide) ?_
                      refine lv_istore (lv' := [(18, .int (-10)), (17, .int 1), (16, .int (nI ((two / 4) % 130))), (15, .int (nI (1 + (thr % 12)))), (14, .int (nI (two % 4))), (13, .int (nI (one % 5))), (0, .ref x), (1, .ref b), (3, .ref (r 0)), (4, .ref (r 1)), (5, .ref (r 2)), (6, .ref (r 3)), (7, .ref (r 4)), (8, .int (nI wh)), (9, .int (nI one)), (10, .int (nI two)), (11, .int (nI thr)), (12, .int (nI v9))]) hx hb dL_isDone_587 hl (by decide) rfl (fun ls hl => ?_)
                      refine lv_iload hx hb dL_isDone_589 (lv_at hl 0 rfl) ?_
                      refine lv_if_lt (tgt := 644) hx hb dL_isDone_591 (by decide) (fun _ => ?_) (fun c_53 => absurd c_53 (by decide))
                      refine lv_aload_n hx hb dL_isDone_644 rfl (lv_at hl 6 rfl) ?_
                      refine lv_iconst (v := 5) hx hb dL_isDone_645 (by decide) ?_
                      refine lv_iload hx hb dL_isDone_646 (lv_at hl 5 rfl) ?_
                      refine lv_iload hx hb dL_isDone_648 (lv_at hl 4 rfl) ?_
                      refine lv_iload hx hb dL_isDone_650 (lv_at hl 3 rfl) ?_
                      refine lv_iload hx hb dL_isDone_652 (lv_at hl 2 rfl) ?_
                      refine z_xcalli (vx_runSX (As := [.ref x, .int 5, .int (nI (one % 5)), .int (nI (two % 4)), .int (nI (1 + (thr % 12))), .int (nI ((two / 4) % 130))]) (rest := []) ⟨hx, hb, hml, hown, hts⟩ (zx_addOrder_3 l hl9 D cy base x r 5 B A (nI (one % 5)) (nI (two % 4)) (nI (1 + (thr % 12))) (nI ((two / 4) % 130)) (cdOrd3 (a := one % 5) (k := two % 4) (w := 1 + (thr % 12)) (g := (two / 4) % 130) hJ.1 (by omega) (by omega) (by omega) (by omega) (by omega) c_50)) (vx_cwSW 6 hts gL_isDone_L_does rfl rfl rfl (by decide +kernel) ⟨Nat.le_of_ble_eq_true rfl, Nat.le_of_ble_eq_true rfl⟩) (z_preS hA hS hH) rfl rfl hl.1 rfl (lv_room (Nat.le_of_ble_eq_true rfl)) dL_isDone_654 ⟨(by show _ ≤ (2900 : Nat); omega), (by show _ ≤ (32500 : Nat); omega)⟩) hS (fun E9 ce9 q9 u9 H locs hw9 hH hz9 hS hce9 hv9 hcl9 => hw9.elim) (fun r_k_54 u_k_54 H locs hw_k_54 hH hz_k_54 hS => ?_)
                      obtain ⟨rfl, hu_k_54⟩ := hw_k_54
                      rw [hu_k_54] at hH
                      refine lv_iload hx hb dL_isDone_657 (lv_at hl 0 rfl) ?_
                      refine lv_icmp_ne (tgt := 666) hx hb dL_isDone_659 (by decide) (fun c_55 => absurd c_55 (by decide)) (fun _ => ?_)
                      refine lv_iconst (v := 1) hx hb dL_isDone_662 (by decide) ?_
                      refine lv_goto (tgt := 667) hx hb dL_isDone_663 (by decide) ?_
                      exact z_zret hx hb hr hlocks hH hS rfl (⟨rfl, hE, JX_mono hY (by omega)⟩) (by omega) (by omega) dL_isDone_667
              · have c_37 := (nI_eq (a := thr % 30) (b := 0) (by omega) (by omega)).mp c_37
                refine lv_sipush (v := 501) hx hb dL_isDone_502 (by decide) ?_
                refine lv_goto (tgt := 515) hx hb dL_isDone_505 (by decide) ?_
                refine lv_istore (lv' := [(15, .int 501), (14, .int (nI (two % 4))), (13, .int (nI (one % 5))), (0, .ref x), (1, .ref b), (3, .ref (r 0)), (4, .ref (r 1)), (5, .ref (r 2)), (6, .ref (r 3)), (7, .ref (r 4)), (8, .int (nI wh)), (9, .int (nI one)), (10, .int (nI two)), (11, .int (nI thr)), (12, .int (nI v9))]) hx hb dL_isDone_515 hl (by decide) rfl (fun ls hl => ?_)
                refine lv_iload hx hb dL_isDone_517 (lv_at hl 12 rfl) ?_
                refine lv_iconst (v := 4) hx hb dL_isDone_519 (by decide) ?_
                refine lv_idiv hx hb dL_isDone_520 (by decide) ?_
                refine lv_eqi (pk_div (a := two) (d := 4) (by omega) (by omega) (by omega)) ?_
                refine lv_sipush (v := 130) hx hb dL_isDone_521 (by decide) ?_
                refine lv_irem hx hb dL_isDone_524 (by decide) ?_
                refine lv_eqi (pk_rem (a := two / 4) (d := 130) (by omega) (by omega) (by omega)) ?_
                refine lv_istore (lv' := [(16, .int (nI ((two / 4) % 130))), (15, .int 501), (14, .int (nI (two % 4))), (13, .int (nI (one % 5))), (0, .ref x), (1, .ref b), (3, .ref (r 0)), (4, .ref (r 1)), (5, .ref (r 2)), (6, .ref (r 3)), (7, .ref (r 4)), (8, .int (nI wh)), (9, .int (nI one)), (10, .int (nI two)), (11, .int (nI thr)), (12, .int (nI v9))]) hx hb dL_isDone_525 hl (by decide) rfl (fun ls hl => ?_)
                refine lv_iload hx hb dL_isDone_527 (lv_at hl 3 rfl) ?_
                refine lv_iconst (v := 4) hx hb dL_isDone_529 (by decide) ?_
                refine lv_icmp_ge (tgt := 543) hx hb dL_isDone_530 (by decide) (fun c_56 => ?_) (fun c_56 => ?_)
                · have c_56 := (nI_leI (a := 4) (b := one % 5) (by omega) (by omega)).mp c_56
                  refine lv_iconst (v := 0) hx hb dL_isDone_543 (by decide) ?_
                  refine lv_istore (lv' := [(17, .int 0), (16, .int (nI ((two / 4) % 130))), (15, .int 501), (14, .int (nI (two % 4))), (13, .int (nI (one % 5))), (0, .ref x), (1, .ref b), (3, .ref (r 0)), (4, .ref (r 1)), (5, .ref (r 2)), (6, .ref (r 3)), (7, .ref (r 4)), (8, .int (nI wh)), (9, .int (nI one)), (10, .int (nI two)), (11, .int (nI thr)), (12, .int (nI v9))]) hx hb dL_isDone_544 hl (by decide) rfl (fun ls hl => ?_)
                  refine lv_iload hx hb dL_isDone_546 (lv_at hl 0 rfl) ?_
                  refine lv_if_ne (tgt := 556) hx hb dL_isDone_548 (by decide) (fun c_57 => absurd c_57 (by decide)) (fun _ => ?_)
                  refine lv_bipush (v := (-30)) hx hb dL_isDone_551 (by decide) ?_
                  refine lv_goto (tgt := 587) hx hb dL_isDone_553 (by decide) ?_
                  refine lv_istore (lv' := [(18, .int (-30)), (17, .int 0), (16, .int (nI ((two / 4) % 130))), (15, .int 501), (14, .int (nI (two % 4))), (13, .int (nI (one % 5))), (0, .ref x), (1, .ref b), (3, .ref (r 0)), (4, .ref (r 1)), (5, .ref (r 2)), (6, .ref (r 3)), (7, .ref (r 4)), (8, .int (nI wh)), (9, .int (nI one)), (10, .int (nI two)), (11, .int (nI thr)), (12, .int (nI v9))]) hx hb dL_isDone_587 hl (by decide) rfl (fun ls hl => ?_)
                  refine lv_iload hx hb dL_isDone_589 (lv_at hl 0 rfl) ?_
                  refine lv_if_lt (tgt := 644) hx hb dL_isDone_591 (by decide) (fun _ => ?_) (fun c_58 => absurd c_58 (by decide))
                  refine lv_aload_n hx hb dL_isDone_644 rfl (lv_at hl 6 rfl) ?_
                  refine lv_iconst (v := 5) hx hb dL_isDone_645 (by decide) ?_
                  refine lv_iload hx hb dL_isDone_646 (lv_at hl 5 rfl) ?_
                  refine lv_iload hx hb dL_isDone_648 (lv_at hl 4 rfl) ?_
                  refine lv_iload hx hb dL_isDone_650 (lv_at hl 3 rfl) ?_
                  refine lv_iload hx hb dL_isDone_652 (lv_at hl 2 rfl) ?_
                  refine z_xcalli (vx_runSX (As := [.ref x, .int 5, .int (nI (one % 5)), .int (nI (two % 4)), .int 501, .int (nI ((two / 4) % 130))]) (rest := []) ⟨hx, hb, hml, hown, hts⟩ (zx_addOrder_1 l hl9 D cy base x r 5 B A (nI (one % 5)) (nI (two % 4)) 501 (nI ((two / 4) % 130)) (cdOrd1 (a := one % 5) (k := two % 4) hJ.1 (by omega) (by omega) (by omega))) (vx_cwSW 6 hts gL_isDone_L_does rfl rfl rfl (by decide +kernel) ⟨Nat.le_of_ble_eq_true rfl, Nat.le_of_ble_eq_true rfl⟩) (z_preS hA hS hH) rfl rfl hl.1 rfl (lv_room (Nat.le_of_ble_eq_true rfl)) dL_isDone_654 ⟨(by show _ ≤ (2900 : Nat); omega), (by show _ ≤ (32500 : Nat); omega)⟩) hS (fun E9 ce9 q9 u9 H locs hw9 hH hz9 hS hce9 hv9 hcl9 => hw9.elim) (fun r_k_59 u_k_59 H locs hw_k_59 hH hz_k_59 hS => ?_)
                  obtain ⟨rfl, hu_k_59⟩ := hw_k_59
                  rw [hu_k_59] at hH
                  refine lv_iload hx hb dL_isDone_657 (lv_at hl 0 rfl) ?_
                  refine lv_icmp_ne (tgt := 666) hx hb dL_isDone_659 (by decide) (fun c_60 => absurd c_60 (by decide)) (fun _ => ?_)
                  refine lv_iconst (v := 1) hx hb dL_isDone_662 (by decide) ?_
                  refine lv_goto (tgt := 667) hx hb dL_isDone_663 (by decide) ?_
                  exact z_zret hx hb hr hlocks hH hS rfl (⟨rfl, hE, JX_mono hY (by omega)⟩) (by omega) (by omega) dL_isDone_667
                · have c_56 : ¬ (4 ≤ one % 5) := fun z => c_56 ((nI_leI (a := 4) (b := one % 5) (by omega) (by omega)).mpr z)
                  refine lv_iload hx hb dL_isDone_533 (lv_at hl 2 rfl) ?_
                  refine lv_iconst (v := 3) hx hb dL_isDone_535 (by decide) ?_
                  refine lv_icmp_ge (tgt := 543) hx hb dL_isDone_536 (by decide) (fun c_61 => ?_) (fun c_61 => ?_)
                  · have c_61 := (nI_leI (a := 3) (b := two % 4) (by omega) (by omega)).mp c_61
                    refine lv_iconst (v := 0) hx hb dL_isDone_543 (by decide) ?_
                    refine lv_istore (lv' := [(17, .int 0), (16, .int (nI ((two / 4) % 130))), (15, .int 501), (14, .int (nI (two % 4))), (13, .int (nI (one % 5))), (0, .ref x), (1, .ref b), (3, .ref (r 0)), (4, .ref (r 1)), (5, .ref (r 2)), (6, .ref (r 3)), (7, .ref (r 4)), (8, .int (nI wh)), (9, .int (nI one)), (10, .int (nI two)), (11, .int (nI thr)), (12, .int (nI v9))]) hx hb dL_isDone_544 hl (by decide) rfl (fun ls hl => ?_)
                    refine lv_iload hx hb dL_isDone_546 (lv_at hl 0 rfl) ?_
                    refine lv_if_ne (tgt := 556) hx hb dL_isDone_548 (by decide) (fun c_62 => absurd c_62 (by decide)) (fun _ => ?_)
                    refine lv_bipush (v := (-30)) hx hb dL_isDone_551 (by decide) ?_
                    refine lv_goto (tgt := 587) hx hb dL_isDone_553 (by decide) ?_
                    refine lv_istore (lv' := [(18, .int (-30)), (17, .int 0), (16, .int (nI ((two / 4) % 130))), (15, .int 501), (14, .int (nI (two % 4))), (13, .int (nI (one % 5))), (0, .ref x), (1, .ref b), (3, .ref (r 0)), (4, .ref (r 1)), (5, .ref (r 2)), (6, .ref (r 3)), (7, .ref (r 4)), (8, .int (nI wh)), (9, .int (nI one)), (10, .int (nI two)), (11, .int (nI thr)), (12, .int (nI v9))]) hx hb dL_isDone_587 hl (by decide) rfl (fun ls hl => ?_)
                    refine lv_iload hx hb dL_isDone_589 (lv_at hl 0 rfl) ?_
                    refine lv_if_lt (tgt := 644) hx hb dL_isDone_591 (by decide) (fun _ => ?_) (fun c_63 => absurd c_63 (by decide))
                    refine lv_aload_n hx hb dL_isDone_644 rfl (lv_at hl 6 rfl) ?_
                    refine lv_iconst (v := 5) hx hb dL_isDone_645 (by decide) ?_
                    refine lv_iload hx hb dL_isDone_646 (lv_at hl 5 rfl) ?_
                    refine lv_iload hx hb dL_isDone_648 (lv_at hl 4 rfl) ?_
                    refine lv_iload hx hb dL_isDone_650 (lv_at hl 3 rfl) ?_
                    refine lv_iload hx hb dL_isDone_652 (lv_at hl 2 rfl) ?_
                    refine z_xcalli (vx_runSX (As := [.ref x, .int 5, .int (nI (one % 5)), .int (nI (two % 4)), .int 501, .int (nI ((two / 4) % 130))]) (rest := []) ⟨hx, hb, hml, hown, hts⟩ (zx_addOrder_1 l hl9 D cy base x r 5 B A (nI (one % 5)) (nI (two % 4)) 501 (nI ((two / 4) % 130)) (cdOrd1 (a := one % 5) (k := two % 4) hJ.1 (by omega) (by omega) (by omega))) (vx_cwSW 6 hts gL_isDone_L_does rfl rfl rfl (by decide +kernel) ⟨Nat.le_of_ble_eq_true rfl, Nat.le_of_ble_eq_true rfl⟩) (z_preS hA hS hH) rfl rfl hl.1 rfl (lv_room (Nat.le_of_ble_eq_true rfl)) dL_isDone_654 ⟨(by show _ ≤ (2900 : Nat); omega), (by show _ ≤ (32500 : Nat); omega)⟩) hS (fun E9 ce9 q9 u9 H locs hw9 hH hz9 hS hce9 hv9 hcl9 => hw9.elim) (fun r_k_64 u_k_64 H locs hw_k_64 hH hz_k_64 hS => ?_)
                    obtain ⟨rfl, hu_k_64⟩ := hw_k_64
                    rw [hu_k_64] at hH
                    refine lv_iload hx hb dL_isDone_657 (lv_at hl 0 rfl) ?_
                    refine lv_icmp_ne (tgt := 666) hx hb dL_isDone_659 (by decide) (fun c_65 => absurd c_65 (by decide)) (fun _ => ?_)
                    refine lv_iconst (v := 1) hx hb dL_isDone_662 (by decide) ?_
                    refine lv_goto (tgt := 667) hx hb dL_isDone_663 (by decide) ?_
                    exact z_zret hx hb hr hlocks hH hS rfl (⟨rfl, hE, JX_mono hY (by omega)⟩) (by omega) (by omega) dL_isDone_667
                  · have c_61 : ¬ (3 ≤ two % 4) := fun z => c_61 ((nI_leI (a := 3) (b := two % 4) (by omega) (by omega)).mpr z)
                    refine lv_iconst (v := 1) hx hb dL_isDone_539 (by decide) ?_
                    refine lv_goto (tgt := 544) hx hb dL_isDone_540 (by decide) ?_
                    refine lv_istore (lv' := [(17, .int 1), (16, .int (nI ((two / 4) % 130))), (15, .int 501), (14, .int (nI (two % 4))), (13, .int (nI (one % 5))), (0, .ref x), (1, .ref b), (3, .ref (r 0)), (4, .ref (r 1)), (5, .ref (r 2)), (6, .ref (r 3)), (7, .ref (r 4)), (8, .int (nI wh)), (9, .int (nI one)), (10, .int (nI two)), (11, .int (nI thr)), (12, .int (nI v9))]) hx hb dL_isDone_544 hl (by decide) rfl (fun ls hl => ?_)
                    refine lv_iload hx hb dL_isDone_546 (lv_at hl 0 rfl) ?_
                    refine lv_if_ne (tgt := 556) hx hb dL_isDone_548 (by decide) (fun _ => ?_) (fun c_66 => absurd c_66 (by decide))
                    refine lv_iload hx hb dL_isDone_556 (lv_at hl 2 rfl) ?_
                    refine lv_sipush (v := 500) hx hb dL_isDone_558 (by decide) ?_
                    refine lv_icmp_le (tgt := 569) hx hb dL_isDone_561 (by decide) (fun c_67 => absurd c_67 (by decide)) (fun _ => ?_)
                    refine lv_bipush (v := (-20)) hx hb dL_isDone_564 (by decide) ?_
                    refine lv_goto (tgt := 587) hx hb dL_isDone_566 (by decide) ?_
                    refine lv_istore (lv' := [(18, .int (-20)), (17, .int 1), (16, .int (nI ((two / 4) % 130))), (15, .int 501), (14, .int (nI (two % 4))), (13, .int (nI (one % 5))), (0, .ref x), (1, .ref b), (3, .ref (r 0)), (4, .ref (r 1)), (5, .ref (r 2)), (6, .ref (r 3)), (7, .ref (r 4)), (8, .int (nI wh)), (9, .int (nI one)), (10, .int (nI two)), (11, .int (nI thr)), (12, .int (nI v9))]) hx hb dL_isDone_587 hl (by decide) rfl (fun ls hl => ?_)
                    refine lv_iload hx hb dL_isDone_589 (lv_at hl 0 rfl) ?_
                    refine lv_if_lt (tgt := 644) hx hb dL_isDone_591 (by decide) (fun _ => ?_) (fun c_68 => absurd c_68 (by decide))
                    refine lv_aload_n hx hb dL_isDone_644 rfl (lv_at hl 6 rfl) ?_
                    refine lv_iconst (v := 5) hx hb dL_isDone_645 (by decide) ?_
                    refine lv_iload hx hb dL_isDone_646 (lv_at hl 5 rfl) ?_
                    refine lv_iload hx hb dL_isDone_648 (lv_at hl 4 rfl) ?_
                    refine lv_iload hx hb dL_isDone_650 (lv_at hl 3 rfl) ?_
                    refine lv_iload hx hb dL_isDone_652 (lv_at hl 2 rfl) ?_
                    refine z_xcalli (vx_runSX (As := [.ref x, .int 5, .int (nI (one % 5)), .int (nI (two % 4)), .int 501, .int (nI ((two / 4) % 130))]) (rest := []) ⟨hx, hb, hml, hown, hts⟩ (zx_addOrder_2 l hl9 D cy base x r 5 B A (nI (one % 5)) (nI (two % 4)) 501 (nI ((two / 4) % 130)) (cdOrd2 (a := one % 5) (k := two % 4) (w := 501) hJ.1 (by omega) (by omega) (by omega) (by omega))) (vx_cwSW 6 hts gL_isDone_L_does rfl rfl rfl (by decide +kernel) ⟨Nat.le_of_ble_eq_true rfl, Nat.le_of_ble_eq_true rfl⟩) (z_preS hA hS hH) rfl rfl hl.1 rfl (lv_room (Nat.le_of_ble_eq_true rfl)) dL_isDone_654 ⟨(by show _ ≤ (2900 : Nat); omega), (by show _ ≤ (32500 : Nat); omega)⟩) hS (fun E9 ce9 q9 u9 H locs hw9 hH hz9 hS hce9 hv9 hcl9 => hw9.elim) (fun r_k_69 u_k_69 H locs hw_k_69 hH hz_k_69 hS => ?_)
                    obtain ⟨rfl, hu_k_69⟩ := hw_k_69
                    rw [hu_k_69] at hH
                    refine lv_iload hx hb dL_isDone_657 (lv_at hl 0 rfl) ?_
                    refine lv_icmp_ne (tgt := 666) hx hb dL_isDone_659 (by decide) (fun c_70 => absurd c_70 (by decide)) (fun _ => ?_)
                    refine lv_iconst (v := 1) hx hb dL_isDone_662 (by decide) ?_
                    refine lv_goto (tgt := 667) hx hb dL_isDone_663 (by decide) ?_
                    exact z_zret hx hb hr hlocks hH hS rfl (⟨rfl, hE, JX_mono hY (by omega)⟩) (by omega) (by omega) dL_isDone_667
          · have c_8 : ¬ (15 ≤ wh) := fun z => c_8 ((nI_leI (a := 15) (b := wh) (by omega) (by omega)).mpr z)
            refine lv_iload hx hb dL_isDone_366 (lv_at hl 9 rfl) ?_
            refine lv_bipush (v := 10) hx hb dL_isDone_368 (by decide) ?_
            refine lv_irem hx hb dL_isDone_370 (by decide) ?_
            refine lv_eqi (pk_rem (a := two) (d := 10) (by omega) (by omega) (by omega)) ?_
            refine lv_if_ne (tgt := 378) hx hb dL_isDone_371 (by decide) (fun c_71 => ?_) (fun c_71 => ?_)
            · have c_71 : ¬ (two % 10 = 0) := fun z => c_71 ((nI_eq (a := two % 10) (b := 0) (by omega) (by omega)).mpr z)
              refine lv_iload hx hb dL_isDone_378 (lv_at hl 9 rfl) ?_
              refine lv_iconst (v := 3) hx hb dL_isDone_380 (by decide) ?_
              refine lv_irem hx hb dL_isDone_381 (by decide) ?_
              refine lv_eqi (pk_rem (a := two) (d := 3) (by omega) (by omega) (by omega)) ?_
              refine lv_istore (lv' := [(13, .int (nI (two % 3))), (0, .ref x), (1, .ref b), (3, .ref (r 0)), (4, .ref (r 1)), (5, .ref (r 2)), (6, .ref (r 3)), (7, .ref (r 4)), (8, .int (nI wh)), (9, .int (nI one)), (10, .int (nI two)), (11, .int (nI thr)), (12, .int (nI v9))]) hx hb dL_isDone_382 hl (by decide) rfl (fun ls hl => ?_)
              refine lv_iload hx hb dL_isDone_384 (lv_at hl 11 rfl) ?_
              refine lv_bipush (v := 22) hx hb dL_isDone_386 (by decide) ?_
              refine lv_irem hx hb dL_isDone_388 (by decide) ?_
              refine lv_eqi (pk_rem (a := thr) (d := 22) (by omega) (by omega) (by omega)) ?_
              refine lv_istore (lv' := [(14, .int (nI (thr % 22))), (13, .int (nI (two % 3))), (0, .ref x), (1, .ref b), (3, .ref (r 0)), (4, .ref (r 1)), (5, .ref (r 2)), (6, .ref (r 3)), (7, .ref (r 4)), (8, .int (nI wh)), (9, .int (nI one)), (10, .int (nI two)), (11, .int (nI thr)), (12, .int (nI v9))]) hx hb dL_isDone_389 hl (by decide) rfl (fun ls hl => ?_)
              refine lv_iload hx hb dL_isDone_391 (lv_at hl 1 rfl) ?_
              refine lv_iconst (v := 3) hx hb dL_isDone_393 (by decide) ?_
              refine lv_icmp_ne (tgt := 402) hx hb dL_isDone_394 (by decide) (fun _ => ?_) (fun c_72 => absurd ((nI_eq (a := two % 3) (b := 3) (by omega) (by omega)).mp c_72) (by omega))
              refine lv_iload hx hb dL_isDone_402 (lv_at hl 0 rfl) ?_
              refine lv_bipush (v := 20) hx hb dL_isDone_404 (by decide) ?_
              refine lv_icmp_le (tgt := 414) hx hb dL_isDone_406 (by decide) (fun c_73 => ?_) (fun c_73 => ?_)
              · have c_73 := (nI_leI (a := thr % 22) (b := 20) (by omega) (by omega)).mp c_73
                refine lv_aload_n hx hb dL_isDone_414 rfl (lv_at hl 4 rfl) ?_
                refine lv_aload hx hb dL_isDone_415 (lv_at hl 5 rfl) ?_
                refine lv_aload hx hb dL_isDone_417 (lv_at hl 8 rfl) ?_
                refine lv_iload hx hb dL_isDone_419 (lv_at hl 1 rfl) ?_
                refine z_calli (va_runS (As := [.ref (r 0), .ref (r 1), .ref (r 4), .int (nI (two % 3))]) (rest := []) ⟨hx, hb, hml, hown, hts⟩ (zl_out l hl9 D cy base x r 5 B A (by omega) hE (nI (two % 3))) (va_cwS 4 hts gL_isDone_L_out rfl rfl rfl (by decide +kernel) ⟨Nat.le_of_ble_eq_true rfl, Nat.le_of_ble_eq_true rfl⟩) (z_preS hA hS hH) rfl rfl hl.1 rfl (lv_room (Nat.le_of_ble_eq_true rfl)) dL_isDone_421 ⟨(by show _ ≤ (2900 : Nat); omega), (by show _ ≤ (32500 : Nat); omega)⟩) hS (fun r_k_74 u_k_74 H locs hw_k_74 hH hz_k_74 hS => ?_)
                obtain ⟨rfl, hu_k_74⟩ := hw_k_74
                rw [hu_k_74] at hH
                refine lv_iload hx hb dL_isDone_424 (lv_at hl 0 rfl) ?_
                refine lv_icmp_le (tgt := 434) hx hb dL_isDone_426 (by decide) (fun c_75 => ?_) (fun c_75 => ?_)
                · refine lv_aload hx hb dL_isDone_434 (lv_at hl 6 rfl) ?_
                  refine lv_iload hx hb dL_isDone_436 (lv_at hl 1 rfl) ?_
                  refine l_iald (f := 2) (v := (B 21 (two % 3))) (by omega) hx hb hA hH (two % 3) rfl (by rw [show lLen 2 = 9 from rfl]; omega) (hE.2.2.2.2.2 (two % 3) (by omega)).1 dL_isDone_438 ?_
                  refine lv_istore (lv' := [(15, .int (B 21 (two % 3))), (14, .int (nI (thr % 22))), (13, .int (nI (two % 3))), (0, .ref x), (1, .ref b), (3, .ref (r 0)), (4, .ref (r 1)), (5, .ref (r 2)), (6, .ref (r 3)), (7, .ref (r 4)), (8, .int (nI wh)), (9, .int (nI one)), (10, .int (nI two)), (11, .int (nI thr)), (12, .int (nI v9))]) hx hb dL_isDone_439 hl (by decide) rfl (fun ls hl => ?_)
                  refine lv_iload hx hb dL_isDone_441 (lv_at hl 0 rfl) ?_
                  refine lv_if_lt (tgt := 453) hx hb dL_isDone_443 (by decide) (fun c_76 => absurd c_76 (show ¬ B 21 (two % 3) < 0 by obtain ⟨t9, ht9, e9⟩ := (hE.2.2.2.2.2 (two % 3) (by omega)).2; rw [e9]; exact nI_pos (by omega))) (fun _ => ?_)
                  refine lv_aload hx hb dL_isDone_446 (lv_at hl 7 rfl) ?_
                  refine lv_iload hx hb dL_isDone_448 (lv_at hl 2 rfl) ?_
                  refine lv_iload hx hb dL_isDone_450 (lv_at hl 1 rfl) ?_
                  refine l_iast (f := 2) (by omega) hx hb hA hH hS (two % 3) rfl (by rw [show lLen 2 = 9 from rfl]; omega) dL_isDone_452 (fun H locs hH hS => ?_)
                  refine lv_aload_n hx hb dL_isDone_453 rfl (lv_at hl 3 rfl) ?_
                  refine lv_iconst (v := 4) hx hb dL_isDone_454 (by decide) ?_
                  refine lv_iload hx hb dL_isDone_455 (lv_at hl 2 rfl) ?_
                  refine lv_iload hx hb dL_isDone_457 (lv_at hl 1 rfl) ?_
                  refine lv_iconst (v := 0) hx hb dL_isDone_459 (by decide) ?_
                  refine lv_iconst (v := 0) hx hb dL_isDone_460 (by decide) ?_
                  refine z_xcalli (vx_runSX (As := [.ref x, .int 4, .int (nI (two % 3)), .int (nI (thr % 22)), .int 0, .int 0]) (rest := []) ⟨hx, hb, hml, hown, hts⟩ (zd_setTools l hl9 D cy base x r 5 B (z2 A 2 (two % 3) (nI (thr % 22))) (nI (two % 3)) (nI (thr % 22)) 0 0) (vx_cwSW 6 hts gL_isDone_L_does rfl rfl rfl (by decide +kernel) ⟨Nat.le_of_ble_eq_true rfl, Nat.le_of_ble_eq_true rfl⟩) (z_preS hA hS hH) rfl rfl hl.1 rfl (lv_room (Nat.le_of_ble_eq_true rfl)) dL_isDone_461 ⟨(by show _ ≤ (2900 : Nat); omega), (by show _ ≤ (32500 : Nat); omega)⟩) hS (fun E9 ce9 q9 u9 H locs hw9 hH hz9 hS hce9 hv9 hcl9 => hw9.elim) (fun r_k_77 u_k_77 H locs hw_k_77 hH hz_k_77 hS => ?_)
                  rcases hw_k_77 with ⟨hc_k_77, rfl, hu_k_77⟩ | ⟨hc_k_77, rfl, hu_k_77⟩ | ⟨hc_k_77, rfl, hu_k_77⟩ | ⟨hc_k_77, rfl, hu_k_77⟩
                  · rw [hu_k_77] at hH
                    have hJ_k_77 := lH_J hH
                    refine lv_eqi (show an_setTools B (nI (two % 3)) = B 21 (two % 3) from congrArg (B 21) (ix_nI (by omega))) ?_
                    have hE2 := JE_setTools (k := two % 3) (t := thr % 22) hE (by omega) (by omega) (ix_nI (by omega))
                    refine lv_iload hx hb dL_isDone_464 (lv_at hl 0 rfl) ?_
                    refine lv_icmp_ne (tgt := 473) hx hb dL_isDone_466 (by decide) (fun c9 => absurd rfl c9) (fun _ => ?_)
                    refine lv_iconst (v := 1) hx hb dL_isDone_469 (by decide) ?_
                    refine lv_goto (tgt := 474) hx hb dL_isDone_470 (by decide) ?_
                    exact z_zret hx hb hr hlocks hH hS rfl (⟨rfl, hE2, JX_mono (JX_tool hY) (by omega)⟩) (by omega) (by omega) dL_isDone_474
                  · exact absurd (hc_k_77.symm.trans (cdTool0 (k := two % 3) (n := thr % 22) hJ.1 (by omega) (by omega) (Int32.not_lt.mpr c_75))) (by decide)
                  · exact absurd (hc_k_77.symm.trans (cdTool0 (k := two % 3) (n := thr % 22) hJ.1 (by omega) (by omega) (Int32.not_lt.mpr c_75))) (by decide)
                  · exact absurd (hc_k_77.symm.trans (cdTool0 (k := two % 3) (n := thr % 22) hJ.1 (by omega) (by omega) (Int32.not_lt.mpr c_75))) (by decide)
                · refine lv_bipush (v := (-10)) hx hb dL_isDone_429 (by decide) ?_
                  refine lv_goto (tgt := 439) hx hb dL_isDone_431 (by decide) ?_
                  refine lv_istore (lv' := [(15, .int (-10)), (14, .int (nI (thr % 22))), (13, .int (nI (two % 3))), (0, .ref x), (1, .ref b), (3, .ref (r 0)), (4, .ref (r 1)), (5, .ref (r 2)), (6, .ref (r 3)), (7, .ref (r 4)), (8, .int (nI wh)), (9, .int (nI one)), (10, .int (nI two)), (11, .int (nI thr)), (12, .int (nI v9))]) hx hb dL_isDone_439 hl (by decide) rfl (fun ls hl => ?_)
                  refine lv_iload hx hb dL_isDone_441 (lv_at hl 0 rfl) ?_
                  refine lv_if_lt (tgt := 453) hx hb dL_isDone_443 (by decide) (fun _ => ?_) (fun c_78 => absurd c_78 (by decide))
                  refine lv_aload_n hx hb dL_isDone_453 rfl (lv_at hl 3 rfl) ?_
                  refine lv_iconst (v := 4) hx hb dL_isDone_454 (by decide) ?_
                  refine lv_iload hx hb dL_isDone_455 (lv_at hl 2 rfl) ?_
                  refine lv_iload hx hb dL_isDone_457 (lv_at hl 1 rfl) ?_
                  refine lv_iconst (v := 0) hx hb dL_isDone_459 (by decide) ?_
                  refine lv_iconst (v := 0) hx hb dL_isDone_460 (by decide) ?_
                  refine z_xcalli (vx_runSX (As := [.ref x, .int 4, .int (nI (two % 3)), .int (nI (thr % 22)), .int 0, .int 0]) (rest := []) ⟨hx, hb, hml, hown, hts⟩ (zx_setTools_3 l hl9 D cy base x r 5 B A (nI (two % 3)) (nI (thr % 22)) 0 0 (cdTool3 (k := two % 3) (n := thr % 22) hJ.1 (by omega) (by omega) (Int32.not_le.mp c_75))) (vx_cwSW 6 hts gL_isDone_L_does rfl rfl rfl (by decide +kernel) ⟨Nat.le_of_ble_eq_true rfl, Nat.le_of_ble_eq_true rfl⟩) (z_preS hA hS hH) rfl rfl hl.1 rfl (lv_room (Nat.le_of_ble_eq_true rfl)) dL_isDone_461 ⟨(by show _ ≤ (2900 : Nat); omega), (by show _ ≤ (32500 : Nat); omega)⟩) hS (fun E9 ce9 q9 u9 H locs hw9 hH hz9 hS hce9 hv9 hcl9 => hw9.elim) (fun r_k_79 u_k_79 H locs hw_k_79 hH hz_k_79 hS => ?_)
                  obtain ⟨rfl, hu_k_79⟩ := hw_k_79
                  rw [hu_k_79] at hH
                  refine lv_iload hx hb dL_isDone_464 (lv_at hl 0 rfl) ?_
                  refine lv_icmp_ne (tgt := 473) hx hb dL_isDone_466 (by decide) (fun c_80 => absurd c_80 (by decide)) (fun _ => ?_)
                  refine lv_iconst (v := 1) hx hb dL_isDone_469 (by decide) ?_
                  refine lv_goto (tgt := 474) hx hb dL_isDone_470 (by decide) ?_
                  exact z_zret hx hb hr hlocks hH hS rfl (⟨rfl, hE, JX_mono hY (by omega)⟩) (by omega) (by omega) dL_isDone_474
              · have c_73 : ¬ (thr % 22 ≤ 20) := fun z => c_73 ((nI_leI (a := thr % 22) (b := 20) (by omega) (by omega)).mpr z)
                refine lv_bipush (v := (-20)) hx hb dL_isDone_409 (by decide) ?_
                refine lv_goto (tgt := 439) hx hb dL_isDone_411 (by decide) ?_
                refine lv_istore (lv' := [(15, .int (-20)), (14, .int (nI (thr % 22))), (13, .int (nI (two % 3))), (0, .ref x), (1, .ref b), (3, .ref (r 0)), (4, .ref (r 1)), (5, .ref (r 2)), (6, .ref (r 3)), (7, .ref (r 4)), (8, .int (nI wh)), (9, .int (nI one)), (10, .int (nI two)), (11, .int (nI thr)), (12, .int (nI v9))]) hx hb dL_isDone_439 hl (by decide) rfl (fun ls hl => ?_)
                refine lv_iload hx hb dL_isDone_441 (lv_at hl 0 rfl) ?_
                refine lv_if_lt (tgt := 453) hx hb dL_isDone_443 (by decide) (fun _ => ?_) (fun c_81 => absurd c_81 (by decide))
                refine lv_aload_n hx hb dL_isDone_453 rfl (lv_at hl 3 rfl) ?_
                refine lv_iconst (v := 4) hx hb dL_isDone_454 (by decide) ?_
                refine lv_iload hx hb dL_isDone_455 (lv_at hl 2 rfl) ?_
                refine lv_iload hx hb dL_isDone_457 (lv_at hl 1 rfl) ?_
                refine lv_iconst (v := 0) hx hb dL_isDone_459 (by decide) ?_
                refine lv_iconst (v := 0) hx hb dL_isDone_460 (by decide) ?_
                refine z_xcalli (vx_runSX (As := [.ref x, .int 4, .int (nI (two % 3)), .int (nI (thr % 22)), .int 0, .int 0]) (rest := []) ⟨hx, hb, hml, hown, hts⟩ (zx_setTools_2 l hl9 D cy base x r 5 B A (nI (two % 3)) (nI (thr % 22)) 0 0 (cdTool2 (k := two % 3) (n := thr % 22) hJ.1 (by omega) (by omega) (by omega))) (vx_cwSW 6 hts gL_isDone_L_does rfl rfl rfl (by decide +kernel) ⟨Nat.le_of_ble_eq_true rfl, Nat.le_of_ble_eq_true rfl⟩) (z_preS hA hS hH) rfl rfl hl.1 rfl (lv_room (Nat.le_of_ble_eq_true rfl)) dL_isDone_461 ⟨(by show _ ≤ (2900 : Nat); omega), (by show _ ≤ (32500 : Nat); omega)⟩) hS (fun E9 ce9 q9 u9 H locs hw9 hH hz9 hS hce9 hv9 hcl9 => hw9.elim) (fun r_k_82 u_k_82 H locs hw_k_82 hH hz_k_82 hS => ?_)
                obtain ⟨rfl, hu_k_82⟩ := hw_k_82
                rw [hu_k_82] at hH
                refine lv_iload hx hb dL_isDone_464 (lv_at hl 0 rfl) ?_
                refine lv_icmp_ne (tgt := 473) hx hb dL_isDone_466 (by decide) (fun c_83 => absurd c_83 (by decide)) (fun _ => ?_)
                refine lv_iconst (v := 1) hx hb dL_isDone_469 (by decide) ?_
                refine lv_goto (tgt := 474) hx hb dL_isDone_470 (by decide) ?_
                exact z_zret hx hb hr hlocks hH hS rfl (⟨rfl, hE, JX_mono hY (by omega)⟩) (by omega) (by omega) dL_isDone_474
            · have c_71 := (nI_eq (a := two % 10) (b := 0) (by omega) (by omega)).mp c_71
              refine lv_iconst (v := 3) hx hb dL_isDone_374 (by decide) ?_
              refine lv_goto (tgt := 382) hx hb dL_isDone_375 (by decide) ?_
              refine lv_istore (lv' := [(13, .int 3), (0, .ref x), (1, .ref b), (3, .ref (r 0)), (4, .ref (r 1)), (5, .ref (r 2)), (6, .ref (r 3)), (7, .ref (r 4)), (8, .int (nI wh)), (9, .int (nI one)), (10, .int (nI two)), (11, .int (nI thr)), (12, .int (nI v9))]) hx hb dL_isDone_382 hl (by decide) rfl (fun ls hl => ?_)
              refine lv_iload hx hb dL_isDone_384 (lv_at hl 11 rfl) ?_
              refine lv_bipush (v := 22) hx hb dL_isDone_386 (by decide) ?_
              refine lv_irem hx hb dL_isDone_388 (by decide) ?_
              refine lv_eqi (pk_rem (a := thr) (d := 22) (by omega) (by omega) (by omega)) ?_
              refine lv_istore (lv' := [(14, .int (nI (thr % 22))), (13, .int 3), (0, .ref x), (1, .ref b), (3, .ref (r 0)), (4, .ref (r 1)), (5, .ref (r 2)), (6, .ref (r 3)), (7, .ref (r 4)), (8, .int (nI wh)), (9, .int (nI one)), (10, .int (nI two)), (11, .int (nI thr)), (12, .int (nI v9))]) hx hb dL_isDone_389 hl (by decide) rfl (fun ls hl => ?_)
              refine lv_iload hx hb dL_isDone_391 (lv_at hl 1 rfl) ?_
              refine lv_iconst (v := 3) hx hb dL_isDone_393 (by decide) ?_
              refine lv_icmp_ne (tgt := 402) hx hb dL_isDone_394 (by decide) (fun c_84 => absurd c_84 (by decide)) (fun _ => ?_)
              refine lv_bipush (v := (-30)) hx hb dL_isDone_397 (by decide) ?_
              refine lv_goto (tgt := 439) hx hb dL_isDone_399 (by decide) ?_
              refine lv_istore (lv' := [(15, .int (-30)), (14, .int (nI (thr % 22))), (13, .int 3), (0, .ref x), (1, .ref b), (3, .ref (r 0)), (4, .ref (r 1)), (5, .ref (r 2)), (6, .ref (r 3)), (7, .ref (r 4)), (8, .int (nI wh)), (9, .int (nI one)), (10, .int (nI two)), (11, .int (nI thr)), (12, .int (nI v9))]) hx hb dL_isDone_439 hl (by decide) rfl (fun ls hl => ?_)
              refine lv_iload hx hb dL_isDone_441 (lv_at hl 0 rfl) ?_
              refine lv_if_lt (tgt := 453) hx hb dL_isDone_443 (by decide) (fun _ => ?_) (fun c_85 => absurd c_85 (by decide))
              refine lv_aload_n hx hb dL_isDone_453 rfl (lv_at hl 3 rfl) ?_
              refine lv_iconst (v := 4) hx hb dL_isDone_454 (by decide) ?_
              refine lv_iload hx hb dL_isDone_455 (lv_at hl 2 rfl) ?_
              refine lv_iload hx hb dL_isDone_457 (lv_at hl 1 rfl) ?_
              refine lv_iconst (v := 0) hx hb dL_isDone_459 (by decide) ?_
              refine lv_iconst (v := 0) hx hb dL_isDone_460 (by decide) ?_
              refine z_xcalli (vx_runSX (As := [.ref x, .int 4, .int 3, .int (nI (thr % 22)), .int 0, .int 0]) (rest := []) ⟨hx, hb, hml, hown, hts⟩ (zx_setTools_1 l hl9 D cy base x r 5 B A 3 (nI (thr % 22)) 0 0 (cdTool1 (k := 3) hJ.1 (by omega) (by omega))) (vx_cwSW 6 hts gL_isDone_L_does rfl rfl rfl (by decide +kernel) ⟨Nat.le_of_ble_eq_true rfl, Nat.le_of_ble_eq_true rfl⟩) (z_preS hA hS hH) rfl rfl hl.1 rfl (lv_room (Nat.le_of_ble_eq_true rfl)) dL_isDone_461 ⟨(by show _ ≤ (2900 : Nat); omega), (by show _ ≤ (32500 : Nat); omega)⟩) hS (fun E9 ce9 q9 u9 H locs hw9 hH hz9 hS hce9 hv9 hcl9 => hw9.elim) (fun r_k_86 u_k_86 H locs hw_k_86 hH hz_k_86 hS => ?_)
              obtain ⟨rfl, hu_k_86⟩ := hw_k_86
              rw [hu_k_86] at hH
              refine lv_iload hx hb dL_isDone_464 (lv_at hl 0 rfl) ?_
              refine lv_icmp_ne (tgt := 473) hx hb dL_isDone_466 (by decide) (fun c_87 => absurd c_87 (by decide)) (fun _ => ?_)
              refine lv_iconst (v := 1) hx hb dL_isDone_469 (by decide) ?_
              refine lv_goto (tgt := 474) hx hb dL_isDone_470 (by decide) ?_
              exact z_zret hx hb hr hlocks hH hS rfl (⟨rfl, hE, JX_mono hY (by omega)⟩) (by omega) (by omega) dL_isDone_474
        · have c_7 : ¬ (12 ≤ wh) := fun z => c_7 ((nI_leI (a := 12) (b := wh) (by omega) (by omega)).mpr z)
          refine lv_aload_n hx hb dL_isDone_343 rfl (lv_at hl 0 rfl) ?_
          refine lv_aload_n hx hb dL_isDone_344 rfl (lv_at hl 2 rfl) ?_
          refine lv_aload hx hb dL_isDone_345 (lv_at hl 5 rfl) ?_
          refine lv_aload hx hb dL_isDone_347 (lv_at hl 6 rfl) ?_
          refine lv_iload hx hb dL_isDone_349 (lv_at hl 11 rfl) ?_
          refine lv_iload hx hb dL_isDone_351 (lv_at hl 9 rfl) ?_
          refine lv_iconst (v := 4) hx hb dL_isDone_353 (by decide) ?_
          refine lv_irem hx hb dL_isDone_354 (by decide) ?_
          refine lv_eqi (pk_rem (a := two) (d := 4) (by omega) (by omega) (by omega)) ?_
          refine z_calli (va_runS (As := [.ref x, .ref (r 0), .ref (r 3), .ref (r 4), .int (nI v9), .int (nI (two % 4))]) (rest := []) ⟨hx, hb, hml, hown, hts⟩ (zl_isAppealed l hl9 D cy base x r 5 B A (by omega) hE hY v9 (two % 4) hv9 (by omega)) (va_cwS 6 hts gL_isDone_L_isAppealed rfl rfl rfl (by decide +kernel) ⟨Nat.le_of_ble_eq_true rfl, Nat.le_of_ble_eq_true rfl⟩) (z_preS hA hS hH) rfl rfl hl.1 rfl (lv_room (Nat.le_of_ble_eq_true rfl)) dL_isDone_355 ⟨(by show _ ≤ (2900 : Nat); omega), (by show _ ≤ (32500 : Nat); omega)⟩) hS (fun r_k_88 u_k_88 H locs hw_k_88 hH hz_k_88 hS => ?_)
          obtain ⟨B_k_88, A_k_88⟩ := u_k_88
          obtain ⟨rfl, hE_k_88, hY_k_88⟩ := hw_k_88
          have hE_k_88 : JE B_k_88 A_k_88 := hE_k_88
          have hY_k_88 : JX (N) B_k_88 := hY_k_88
          have hJ_k_88 := lH_J hH
          have hn_k_88 : nP B_k_88 ≤ 6 := hE_k_88.1.1
          exact z_zret hx hb hr hlocks hH hS rfl (⟨rfl, hE_k_88, JX_mono hY_k_88 (by omega)⟩) (by omega) (by omega) dL_isDone_358
      · have c_6 : ¬ (9 ≤ wh) := fun z => c_6 ((nI_leI (a := 9) (b := wh) (by omega) (by omega)).mpr z)
        refine lv_aload_n hx hb dL_isDone_301 rfl (lv_at hl 0 rfl) ?_
        refine lv_aload_n hx hb dL_isDone_302 rfl (lv_at hl 2 rfl) ?_
        refine lv_aload hx hb dL_isDone_303 (lv_at hl 4 rfl) ?_
        refine lv_aload hx hb dL_isDone_305 (lv_at hl 5 rfl) ?_
        refine lv_aload hx hb dL_isDone_307 (lv_at hl 6 rfl) ?_
        refine lv_iload hx hb dL_isDone_309 (lv_at hl 7 rfl) ?_
        refine lv_bipush (v := 7) hx hb dL_isDone_311 (by decide) ?_
        refine lv_icmp_ge (tgt := 320) hx hb dL_isDone_313 (by decide) (fun c_89 => ?_) (fun c_89 => ?_)
        · have c_89 := (nI_leI (a := 7) (b := wh) (by omega) (by omega)).mp c_89
          refine lv_iconst (v := 1) hx hb dL_isDone_320 (by decide) ?_
          refine lv_iload hx hb dL_isDone_321 (lv_at hl 11 rfl) ?_
          refine lv_iload hx hb dL_isDone_323 (lv_at hl 9 rfl) ?_
          refine lv_bipush (v := 30) hx hb dL_isDone_325 (by decide) ?_
          refine lv_idiv hx hb dL_isDone_327 (by decide) ?_
          refine lv_eqi (pk_div (a := two) (d := 30) (by omega) (by omega) (by omega)) ?_
          refine lv_iconst (v := 5) hx hb dL_isDone_328 (by decide) ?_
          refine lv_irem hx hb dL_isDone_329 (by decide) ?_
          refine lv_eqi (pk_rem (a := two / 30) (d := 5) (by omega) (by omega) (by omega)) ?_
          refine lv_iload hx hb dL_isDone_330 (lv_at hl 9 rfl) ?_
          refine z_calli (va_runS (As := [.ref x, .ref (r 0), .ref (r 2), .ref (r 3), .ref (r 4), .int 1, .int (nI v9), .int (nI ((two / 30) % 5)), .int (nI two)]) (rest := []) ⟨hx, hb, hml, hown, hts⟩ (zl_isPaper1 l hl9 D cy base x r 5 B A (by omega) hE hY v9 ((two / 30) % 5) two hv9 (by omega) (by omega)) (va_cwS 9 hts gL_isDone_L_isPaper rfl rfl rfl (by decide +kernel) ⟨Nat.le_of_ble_eq_true rfl, Nat.le_of_ble_eq_true rfl⟩) (z_preS hA hS hH) rfl rfl hl.1 rfl (lv_room (Nat.le_of_ble_eq_true rfl)) dL_isDone_332 ⟨(by show _ ≤ (2900 : Nat); omega), (by show _ ≤ (32500 : Nat); omega)⟩) hS (fun r_k_90 u_k_90 H locs hw_k_90 hH hz_k_90 hS => ?_)
          obtain ⟨B_k_90, A_k_90⟩ := u_k_90
          obtain ⟨rfl, hE_k_90, hY_k_90⟩ := hw_k_90
          have hE_k_90 : JE B_k_90 A_k_90 := hE_k_90
          have hY_k_90 : JX (N) B_k_90 := hY_k_90
          have hJ_k_90 := lH_J hH
          have hn_k_90 : nP B_k_90 ≤ 6 := hE_k_90.1.1
          exact z_zret hx hb hr hlocks hH hS rfl (⟨rfl, hE_k_90, JX_mono hY_k_90 (by omega)⟩) (by omega) (by omega) dL_isDone_335
        · have c_89 : ¬ (7 ≤ wh) := fun z => c_89 ((nI_leI (a := 7) (b := wh) (by omega) (by omega)).mpr z)
          refine lv_iconst (v := 0) hx hb dL_isDone_316 (by decide) ?_
          refine lv_goto (tgt := 321) hx hb dL_isDone_317 (by decide) ?_
          refine lv_iload hx hb dL_isDone_321 (lv_at hl 11 rfl) ?_
          refine lv_iload hx hb dL_isDone_323 (lv_at hl 9 rfl) ?_
          refine lv_bipush (v := 30) hx hb dL_isDone_325 (by decide) ?_
          refine lv_idiv hx hb dL_isDone_327 (by decide) ?_
          refine lv_eqi (pk_div (a := two) (d := 30) (by omega) (by omega) (by omega)) ?_
          refine lv_iconst (v := 5) hx hb dL_isDone_328 (by decide) ?_
          refine lv_irem hx hb dL_isDone_329 (by decide) ?_
          refine lv_eqi (pk_rem (a := two / 30) (d := 5) (by omega) (by omega) (by omega)) ?_
          refine lv_iload hx hb dL_isDone_330 (lv_at hl 9 rfl) ?_
          refine z_calli (va_runS (As := [.ref x, .ref (r 0), .ref (r 2), .ref (r 3), .ref (r 4), .int 0, .int (nI v9), .int (nI ((two / 30) % 5)), .int (nI two)]) (rest := []) ⟨hx, hb, hml, hown, hts⟩ (zl_isPaper0 l hl9 D cy base x r 5 B A (by omega) hE hY v9 ((two / 30) % 5) two hv9 (by omega) (by omega)) (va_cwS 9 hts gL_isDone_L_isPaper rfl rfl rfl (by decide +kernel) ⟨Nat.le_of_ble_eq_true rfl, Nat.le_of_ble_eq_true rfl⟩) (z_preS hA hS hH) rfl rfl hl.1 rfl (lv_room (Nat.le_of_ble_eq_true rfl)) dL_isDone_332 ⟨(by show _ ≤ (2900 : Nat); omega), (by show _ ≤ (32500 : Nat); omega)⟩) hS (fun r_k_91 u_k_91 H locs hw_k_91 hH hz_k_91 hS => ?_)
          obtain ⟨B_k_91, A_k_91⟩ := u_k_91
          obtain ⟨rfl, hE_k_91, hY_k_91⟩ := hw_k_91
          have hE_k_91 : JE B_k_91 A_k_91 := hE_k_91
          have hY_k_91 : JX (N) B_k_91 := hY_k_91
          have hJ_k_91 := lH_J hH
          have hn_k_91 : nP B_k_91 ≤ 6 := hE_k_91.1.1
          exact z_zret hx hb hr hlocks hH hS rfl (⟨rfl, hE_k_91, JX_mono hY_k_91 (by omega)⟩) (by omega) (by omega) dL_isDone_335
    · have c_5 : ¬ (5 ≤ wh) := fun z => c_5 ((nI_leI (a := 5) (b := wh) (by omega) (by omega)).mpr z)
      refine lv_iload hx hb dL_isDone_82 (lv_at hl 9 rfl) ?_
      refine lv_bipush (v := 30) hx hb dL_isDone_84 (by decide) ?_
      refine lv_irem hx hb dL_isDone_86 (by decide) ?_
      refine lv_eqi (pk_rem (a := two) (d := 30) (by omega) (by omega) (by omega)) ?_
      refine lv_if_ne (tgt := 96) hx hb dL_isDone_87 (by decide) (fun c_92 => ?_) (fun c_92 => ?_)
      · have c_92 : ¬ (two % 30 = 0) := fun z => c_92 ((nI_eq (a := two % 30) (b := 0) (by omega) (by omega)).mpr z)
        refine lv_iconst (v := 1) hx hb dL_isDone_96 (by decide) ?_
        refine lv_iload hx hb dL_isDone_97 (lv_at hl 9 rfl) ?_
        refine lv_bipush (v := 60) hx hb dL_isDone_99 (by decide) ?_
        refine lv_irem hx hb dL_isDone_101 (by decide) ?_
        refine lv_eqi (pk_rem (a := two) (d := 60) (by omega) (by omega) (by omega)) ?_
        refine lv_iadd hx hb dL_isDone_102 ?_
        refine lv_eqi (nI_add 1 (two % 60)) ?_
        refine lv_istore (lv' := [(13, .int (nI (1 + (two % 60)))), (0, .ref x), (1, .ref b), (3, .ref (r 0)), (4, .ref (r 1)), (5, .ref (r 2)), (6, .ref (r 3)), (7, .ref (r 4)), (8, .int (nI wh)), (9, .int (nI one)), (10, .int (nI two)), (11, .int (nI thr)), (12, .int (nI v9))]) hx hb dL_isDone_103 hl (by decide) rfl (fun ls hl => ?_)
        refine lv_iload hx hb dL_isDone_105 (lv_at hl 11 rfl) ?_
        refine lv_bipush (v := 17) hx hb dL_isDone_107 (by decide) ?_
        refine lv_irem hx hb dL_isDone_109 (by decide) ?_
        refine lv_eqi (pk_rem (a := thr) (d := 17) (by omega) (by omega) (by omega)) ?_
        refine lv_istore (lv' := [(14, .int (nI (thr % 17))), (13, .int (nI (1 + (two % 60)))), (0, .ref x), (1, .ref b), (3, .ref (r 0)), (4, .ref (r 1)), (5, .ref (r 2)), (6, .ref (r 3)), (7, .ref (r 4)), (8, .int (nI wh)), (9, .int (nI one)), (10, .int (nI two)), (11, .int (nI thr)), (12, .int (nI v9))]) hx hb dL_isDone_110 hl (by decide) rfl (fun ls hl => ?_)
        refine lv_iload hx hb dL_isDone_112 (lv_at hl 1 rfl) ?_
        refine lv_sipush (v := 2001) hx hb dL_isDone_114 (by decide) ?_
        refine lv_icmp_ge (tgt := 131) hx hb dL_isDone_117 (by decide) (fun c_93 => absurd ((nI_leI (a := 2001) (b := 1 + (two % 60)) (by omega) (by omega)).mp c_93) (by omega)) (fun _ => ?_)
        refine lv_iload hx hb dL_isDone_120 (lv_at hl 0 rfl) ?_
        refine lv_bipush (v := 16) hx hb dL_isDone_122 (by decide) ?_
        refine lv_icmp_ge (tgt := 131) hx hb dL_isDone_124 (by decide) (fun c_94 => ?_) (fun c_94 => ?_)
        · have c_94 := (nI_leI (a := 16) (b := thr % 17) (by omega) (by omega)).mp c_94
          refine lv_iconst (v := 0) hx hb dL_isDone_131 (by decide) ?_
          refine lv_istore (lv' := [(15, .int 0), (14, .int (nI (thr % 17))), (13, .int (nI (1 + (two % 60)))), (0, .ref x), (1, .ref b), (3, .ref (r 0)), (4, .ref (r 1)), (5, .ref (r 2)), (6, .ref (r 3)), (7, .ref (r 4)), (8, .int (nI wh)), (9, .int (nI one)), (10, .int (nI two)), (11, .int (nI thr)), (12, .int (nI v9))]) hx hb dL_isDone_132 hl (by decide) rfl (fun ls hl => ?_)
          refine lv_iload hx hb dL_isDone_134 (lv_at hl 0 rfl) ?_
          refine lv_if_eq (tgt := 174) hx hb dL_isDone_136 (by decide) (fun _ => ?_) (fun c_95 => absurd c_95 (by decide))
          refine lv_iload hx hb dL_isDone_174 (lv_at hl 0 rfl) ?_
          refine lv_if_eq (tgt := 186) hx hb dL_isDone_176 (by decide) (fun _ => ?_) (fun c_96 => absurd c_96 (by decide))
          refine lv_bipush (v := (-20)) hx hb dL_isDone_186 (by decide) ?_
          refine lv_istore (lv' := [(16, .int (-20)), (15, .int 0), (14, .int (nI (thr % 17))), (13, .int (nI (1 + (two % 60)))), (0, .ref x), (1, .ref b), (3, .ref (r 0)), (4, .ref (r 1)), (5, .ref (r 2)), (6, .ref (r 3)), (7, .ref (r 4)), (8, .int (nI wh)), (9, .int (nI one)), (10, .int (nI two)), (11, .int (nI thr)), (12, .int (nI v9))]) hx hb dL_isDone_188 hl (by decide) rfl (fun ls hl => ?_)
          refine lv_iload hx hb dL_isDone_190 (lv_at hl 1 rfl) ?_
          refine lv_if_eq (tgt := 246) hx hb dL_isDone_192 (by decide) (fun _ => ?_) (fun c_97 => absurd c_97 (by decide))
          refine lv_aload_n hx hb dL_isDone_246 rfl (lv_at hl 4 rfl) ?_
          refine lv_iconst (v := 0) hx hb dL_isDone_247 (by decide) ?_
          refine lv_iload hx hb dL_isDone_248 (lv_at hl 3 rfl) ?_
          refine lv_iload hx hb dL_isDone_250 (lv_at hl 2 rfl) ?_
          refine lv_iconst (v := 0) hx hb dL_isDone_252 (by decide) ?_
          refine lv_iconst (v := 0) hx hb dL_isDone_253 (by decide) ?_
          refine z_xcalli (vx_runSX (As := [.ref x, .int 0, .int (nI (1 + (two % 60))), .int (nI (thr % 17)), .int 0, .int 0]) (rest := []) ⟨hx, hb, hml, hown, hts⟩ (zx_admit_1 l hl9 D cy base x r 5 B A (nI (1 + (two % 60))) (nI (thr % 17)) 0 0 (cdAdmit1 (t := 1 + (two % 60)) (k := thr % 17) hJ.1 (by omega) (by omega) (by omega))) (vx_cwSW 6 hts gL_isDone_L_does rfl rfl rfl (by decide +kernel) ⟨Nat.le_of_ble_eq_true rfl, Nat.le_of_ble_eq_true rfl⟩) (z_preS hA hS hH) rfl rfl hl.1 rfl (lv_room (Nat.le_of_ble_eq_true rfl)) dL_isDone_254 ⟨(by show _ ≤ (2900 : Nat); omega), (by show _ ≤ (32500 : Nat); omega)⟩) hS (fun E9 ce9 q9 u9 H locs hw9 hH hz9 hS hce9 hv9 hcl9 => hw9.elim) (fun r_k_98 u_k_98 H locs hw_k_98 hH hz_k_98 hS => ?_)
          obtain ⟨rfl, hu_k_98⟩ := hw_k_98
          rw [hu_k_98] at hH
          refine lv_iload hx hb dL_isDone_257 (lv_at hl 0 rfl) ?_
          refine lv_icmp_ne (tgt := 292) hx hb dL_isDone_259 (by decide) (fun c_99 => absurd c_99 (by decide)) (fun _ => ?_)
          refine lv_iload hx hb dL_isDone_262 (lv_at hl 0 rfl) ?_
          refine lv_if_lt (tgt := 288) hx hb dL_isDone_264 (by decide) (fun _ => ?_) (fun c_100 => absurd c_100 (by decide))
          refine lv_iconst (v := 1) hx hb dL_isDone_288 (by decide) ?_
          refine lv_goto (tgt := 293) hx hb dL_isDone_289 (by decide) ?_
          exact z_zret hx hb hr hlocks hH hS rfl (⟨rfl, hE, JX_mono hY (by omega)⟩) (by omega) (by omega) dL_isDone_293
        · have c_94 : ¬ (16 ≤ thr % 17) := fun z => c_94 ((nI_leI (a := 16) (b := thr % 17) (by omega) (by omega)).mpr z)
          refine lv_iconst (v := 1) hx hb dL_isDone_127 (by decide) ?_
          refine lv_goto (tgt := 132) hx hb dL_isDone_128 (by decide) ?_
          refine lv_istore (lv' := [(15, .int 1), (14, .int (nI (thr % 17))), (13, .int (nI (1 + (two % 60)))), (0, .ref x), (1, .ref b), (3, .ref (r 0)), (4, .ref (r 1)), (5, .ref (r 2)), (6, .ref (r 3)), (7, .ref (r 4)), (8, .int (nI wh)), (9, .int (nI one)), (10, .int (nI two)), (11, .int (nI thr)), (12, .int (nI v9))]) hx hb dL_isDone_132 hl (by decide) rfl (fun ls hl => ?_)
          refine lv_iload hx hb dL_isDone_134 (lv_at hl 0 rfl) ?_
          refine lv_if_eq (tgt := 174) hx hb dL_isDone_136 (by decide) (fun c_101 => absurd c_101 (by decide)) (fun _ => ?_)
          refine lv_aload hx hb dL_isDone_139 (lv_at hl 9 rfl) ?_
          refine lv_iconst (v := 1) hx hb dL_isDone_141 (by decide) ?_
          refine l_iald (f := 4) (v := (nI (nP B))) (by omega) hx hb hA hH 1 rfl (by rw [show lLen 4 = 3 from rfl]; omega) hE.1.2.2.1 dL_isDone_142 ?_
          refine lv_bipush (v := 6) hx hb dL_isDone_143 (by decide) ?_
          refine lv_icmp_ne (tgt := 174) hx hb dL_isDone_145 (by decide) (fun c_102 => ?_) (fun c_102 => ?_)
          · have c_102 : ¬ (nP B = 6) := fun z => c_102 ((nI_eq (a := nP B) (b := 6) (by omega) (by omega)).mpr z)
            refine lv_iload hx hb dL_isDone_174 (lv_at hl 0 rfl) ?_
            refine lv_if_eq (tgt := 186) hx hb dL_isDone_176 (by decide) (fun c_103 => absurd c_103 (by decide)) (fun _ => ?_)
            refine lv_aload hx hb dL_isDone_179 (lv_at hl 9 rfl) ?_
            refine lv_iconst (v := 1) hx hb dL_isDone_181 (by decide) ?_
            refine l_iald (f := 4) (v := (nI (nP B))) (by omega) hx hb hA hH 1 rfl (by rw [show lLen 4 = 3 from rfl]; omega) hE.1.2.2.1 dL_isDone_182 ?_
            refine lv_goto (tgt := 188) hx hb dL_isDone_183 (by decide) ?_
            refine lv_istore (lv' := [(16, .int (nI (nP B))), (15, .int 1), (14, .int (nI (thr % 17))), (13, .int (nI (1 + (two % 60)))), (0, .ref x), (1, .ref b), (3, .ref (r 0)), (4, .ref (r 1)), (5, .ref (r 2)), (6, .ref (r 3)), (7, .ref (r 4)), (8, .int (nI wh)), (9, .int (nI one)), (10, .int (nI two)), (11, .int (nI thr)), (12, .int (nI v9))]) hx hb dL_isDone_188 hl (by decide) rfl (fun ls hl => ?_)
            refine lv_iload hx hb dL_isDone_190 (lv_at hl 1 rfl) ?_
            refine lv_if_eq (tgt := 246) hx hb dL_isDone_192 (by decide) (fun c_104 => absurd c_104 (by decide)) (fun _ => ?_)
            refine lv_aload_n hx hb dL_isDone_195 rfl (lv_at hl 6 rfl) ?_
            refine lv_bipush (v := 10) hx hb dL_isDone_196 (by decide) ?_
            refine lv_iload hx hb dL_isDone_198 (lv_at hl 0 rfl) ?_
            refine lv_imul hx hb dL_isDone_200 ?_
            refine lv_eqi (pk_mul 10 (nP B)) ?_
            refine lv_aload hx hb dL_isDone_201 (lv_at hl 10 rfl) ?_
            refine lv_iconst (v := 0) hx hb dL_isDone_203 (by decide) ?_
            refine l_iald (f := 4) (v := (B 0 0)) (by omega) hx hb hA hH 0 rfl (by rw [show lLen 4 = 3 from rfl]; omega) hE.1.2.1 dL_isDone_204 ?_
            refine l_iast (f := 0) (by omega) hx hb hA hH hS (10 * nP B) rfl (by rw [show lLen 0 = 60 from rfl]; omega) dL_isDone_205 (fun H locs hH hS => ?_)
            refine lv_aload_n hx hb dL_isDone_206 rfl (lv_at hl 6 rfl) ?_
            refine lv_bipush (v := 10) hx hb dL_isDone_207 (by decide) ?_
            refine lv_iload hx hb dL_isDone_209 (lv_at hl 0 rfl) ?_
            refine lv_imul hx hb dL_isDone_211 ?_
            refine lv_eqi (pk_mul 10 (nP B)) ?_
            refine lv_iconst (v := 1) hx hb dL_isDone_212 (by decide) ?_
            refine lv_iadd hx hb dL_isDone_213 ?_
            refine lv_eqi (nI_add (10 * nP B) 1) ?_
            refine lv_iload hx hb dL_isDone_214 (lv_at hl 3 rfl) ?_
            refine l_iast (f := 0) (by omega) hx hb hA hH hS (10 * nP B + 1) rfl (by rw [show lLen 0 = 60 from rfl]; omega) dL_isDone_216 (fun H locs hH hS => ?_)
            refine lv_aload_n hx hb dL_isDone_217 rfl (lv_at hl 6 rfl) ?_
            refine lv_bipush (v := 10) hx hb dL_isDone_218 (by decide) ?_
            refine lv_iload hx hb dL_isDone_220 (lv_at hl 0 rfl) ?_
            refine lv_imul hx hb dL_isDone_222 ?_
            refine lv_eqi (pk_mul 10 (nP B)) ?_
            refine lv_iconst (v := 2) hx hb dL_isDone_223 (by decide) ?_
            refine lv_iadd hx hb dL_isDone_224 ?_
            refine lv_eqi (nI_add (10 * nP B) 2) ?_
            refine lv_iload hx hb dL_isDone_225 (lv_at hl 2 rfl) ?_
            refine l_iast (f := 0) (by omega) hx hb hA hH hS (10 * nP B + 2) rfl (by rw [show lLen 0 = 60 from rfl]; omega) dL_isDone_227 (fun H locs hH hS => ?_)
            refine lv_aload_n hx hb dL_isDone_228 rfl (lv_at hl 6 rfl) ?_
            refine lv_bipush (v := 10) hx hb dL_isDone_229 (by decide) ?_
            refine lv_iload hx hb dL_isDone_231 (lv_at hl 0 rfl) ?_
            refine lv_imul hx hb dL_isDone_233 ?_
            refine lv_eqi (pk_mul 10 (nP B)) ?_
            refine lv_iconst (v := 3) hx hb dL_isDone_234 (by decide) ?_
            refine lv_iadd hx hb dL_isDone_235 ?_
            refine lv_eqi (nI_add (10 * nP B) 3) ?_
            refine lv_iconst (v := (-1)) hx hb dL_isDone_236 (by decide) ?_
            refine l_iast (f := 0) (by omega) hx hb hA hH hS (10 * nP B + 3) rfl (by rw [show lLen 0 = 60 from rfl]; omega) dL_isDone_237 (fun H locs hH hS => ?_)
            refine lv_aload hx hb dL_isDone_238 (lv_at hl 10 rfl) ?_
            refine lv_iconst (v := 1) hx hb dL_isDone_240 (by decide) ?_
            refine lv_dup2_11 hx hb dL_isDone_241 rfl rfl ?_
            refine l_iald (f := 4) (v := (nI (nP B))) (by omega) hx hb hA hH 1 rfl (by rw [show lLen 4 = 3 from rfl]; omega) hE.1.2.2.1 dL_isDone_242 ?_
            refine lv_iconst (v := 1) hx hb dL_isDone_243 (by decide) ?_
            refine lv_iadd hx hb dL_isDone_244 ?_
            refine lv_eqi (nI_add (nP B) 1) ?_
            refine l_iast (f := 4) (by omega) hx hb hA hH hS 1 rfl (by rw [show lLen 4 = 3 from rfl]; omega) dL_isDone_245 (fun H locs hH hS => ?_)
            refine lv_aload_n hx hb dL_isDone_246 rfl (lv_at hl 4 rfl) ?_
            refine lv_iconst (v := 0) hx hb dL_isDone_247 (by decide) ?_
            refine lv_iload hx hb dL_isDone_248 (lv_at hl 3 rfl) ?_
            refine lv_iload hx hb dL_isDone_250 (lv_at hl 2 rfl) ?_
            refine lv_iconst (v := 0) hx hb dL_isDone_252 (by decide) ?_
            refine lv_iconst (v := 0) hx hb dL_isDone_253 (by decide) ?_
            refine z_xcalli (vx_runSX (As := [.ref x, .int 0, .int (nI (1 + (two % 60))), .int (nI (thr % 17)), .int 0, .int 0]) (rest := []) ⟨hx, hb, hml, hown, hts⟩ (zd_admit l hl9 D cy base x r 5 B (z2 (z2 (z2 (z2 (z2 A 0 (10 * nP B) (B 0 0)) 0 (10 * nP B + 1) (nI (1 + (two % 60)))) 0 (10 * nP B + 2) (nI (thr % 17))) 0 (10 * nP B + 3) (-1)) 4 1 (nI (nP B + 1))) (nI (1 + (two % 60))) (nI (thr % 17)) 0 0) (vx_cwSW 6 hts gL_isDone_L_does rfl rfl rfl (by decide +kernel) ⟨Nat.le_of_ble_eq_true rfl, Nat.le_of_ble_eq_true rfl⟩) (z_preS hA hS hH) rfl rfl hl.1 rfl (lv_room (Nat.le_of_ble_eq_true rfl)) dL_isDone_254 ⟨(by show _ ≤ (2900 : Nat); omega), (by show _ ≤ (32500 : Nat); omega)⟩) hS (fun E9 ce9 q9 u9 H locs hw9 hH hz9 hS hce9 hv9 hcl9 => hw9.elim) (fun r_k_105 u_k_105 H locs hw_k_105 hH hz_k_105 hS => ?_)
            rcases hw_k_105 with ⟨hc_k_105, rfl, hu_k_105⟩ | ⟨hc_k_105, rfl, hu_k_105⟩ | ⟨hc_k_105, rfl, hu_k_105⟩
            · rw [hu_k_105] at hH
              have hJ_k_105 := lH_J hH
              refine lv_eqi (show an_admit B = nI (nP B) by unfold an_admit; rw [i32_11]; exact hJ.1.1.2) ?_
              have hE2 := JE_admit (d := nI (1 + (two % 60))) (k9 := nI (thr % 17)) hE hJ.1 (by omega)
              have hnew : nP B < nP (up_admit B (nI (1 + (two % 60))) (nI (thr % 17))) := by rw [nP_add hJ.1]; omega
              refine lv_iload hx hb dL_isDone_257 (lv_at hl 0 rfl) ?_
              refine lv_icmp_ne (tgt := 292) hx hb dL_isDone_259 (by decide) (fun c9 => absurd rfl c9) (fun _ => ?_)
              refine lv_iload hx hb dL_isDone_262 (lv_at hl 0 rfl) ?_
              refine lv_if_lt (tgt := 288) hx hb dL_isDone_264 (by decide) (fun c_106 => absurd ((nI_ltI (a := nP B) (b := 0) (by omega) (by omega)).mp c_106) (by omega)) (fun _ => ?_)
              refine lv_aload_n hx hb dL_isDone_267 rfl (lv_at hl 4 rfl) ?_
              refine lv_iload hx hb dL_isDone_268 (lv_at hl 0 rfl) ?_
              refine z_calli (va_runV (As := [.int (nI (nP B))]) (rest := []) ⟨hx, hb, hml, hown, hts⟩ (cq_regime l hl9 D cy base x r 5 (up_admit B (nI (1 + (two % 60))) (nI (thr % 17))) (z2 (z2 (z2 (z2 (z2 A 0 (10 * nP B) (B 0 0)) 0 (10 * nP B + 1) (nI (1 + (two % 60)))) 0 (10 * nP B + 2) (nI (thr % 17))) 0 (10 * nP B + 3) (-1)) 4 1 (nI (nP B + 1))) hJ_k_105.1 (nP B) hnew) (cwV 1 hts gL_isDone_X5_regime rfl rfl rfl (by decide +kernel) ⟨Nat.le_of_ble_eq_true rfl, Nat.le_of_ble_eq_true rfl⟩) (z_preV hA hS hH (l_recv hA hH)) rfl rfl hl.1 rfl (lv_room (Nat.le_of_ble_eq_true rfl)) dL_isDone_270 ⟨(by show _ ≤ (2900 : Nat); omega), (by show _ ≤ (32500 : Nat); omega)⟩) hS (fun r_k_107 u_k_107 H locs hw_k_107 hH hz_k_107 hS => ?_)
              obtain ⟨rfl, hu_k_107⟩ := hw_k_107
              rw [hu_k_107] at hH
              refine lv_iconst (v := 1) hx hb dL_isDone_273 (by decide) ?_
              refine lv_icmp_ne (tgt := 292) hx hb dL_isDone_274 (by decide) (fun c_108 => absurd ((rest_new hJ).2) c_108) (fun _ => ?_)
              refine lv_aload_n hx hb dL_isDone_277 rfl (lv_at hl 4 rfl) ?_
              refine lv_iload hx hb dL_isDone_278 (lv_at hl 0 rfl) ?_
              refine z_calli (va_runV (As := [.int (nI (nP B))]) (rest := []) ⟨hx, hb, hml, hown, hts⟩ (cq_limit l hl9 D cy base x r 5 (up_admit B (nI (1 + (two % 60))) (nI (thr % 17))) (z2 (z2 (z2 (z2 (z2 A 0 (10 * nP B) (B 0 0)) 0 (10 * nP B + 1) (nI (1 + (two % 60)))) 0 (10 * nP B + 2) (nI (thr % 17))) 0 (10 * nP B + 3) (-1)) 4 1 (nI (nP B + 1))) hJ_k_105.1 (nP B) hnew) (cwV 1 hts gL_isDone_X5_limit rfl rfl rfl (by decide +kernel) ⟨Nat.le_of_ble_eq_true rfl, Nat.le_of_ble_eq_true rfl⟩) (z_preV hA hS hH (l_recv hA hH)) rfl rfl hl.1 rfl (lv_room (Nat.le_of_ble_eq_true rfl)) dL_isDone_280 ⟨(by show _ ≤ (2900 : Nat); omega), (by show _ ≤ (32500 : Nat); omega)⟩) hS (fun r_k_109 u_k_109 H locs hw_k_109 hH hz_k_109 hS => ?_)
              obtain ⟨rfl, hu_k_109⟩ := hw_k_109
              rw [hu_k_109] at hH
              refine lv_bipush (v := 30) hx hb dL_isDone_283 (by decide) ?_
              refine lv_icmp_ne (tgt := 292) hx hb dL_isDone_285 (by decide) (fun c_110 => absurd ((rest_new hJ).1) c_110) (fun _ => ?_)
              refine lv_iconst (v := 1) hx hb dL_isDone_288 (by decide) ?_
              refine lv_goto (tgt := 293) hx hb dL_isDone_289 (by decide) ?_
              exact z_zret hx hb hr hlocks hH hS rfl (⟨rfl, hE2, JX_mono (JX_admit hY hJ) (by omega)⟩) (by omega) (by omega) dL_isDone_293
            · exact absurd (hc_k_105.symm.trans (cdAdmit0 (t := 1 + (two % 60)) (k := thr % 17) hJ.1 (by omega) (by omega) (by omega) (by omega))) (by decide)
            · exact absurd (hc_k_105.symm.trans (cdAdmit0 (t := 1 + (two % 60)) (k := thr % 17) hJ.1 (by omega) (by omega) (by omega) (by omega))) (by decide)
          · have c_102 := (nI_eq (a := nP B) (b := 6) (by omega) (by omega)).mp c_102
            refine lv_aload_n hx hb dL_isDone_148 rfl (lv_at hl 3 rfl) ?_
            refine lv_iconst (v := 5) hx hb dL_isDone_149 (by decide) ?_
            refine z_calli (va_runV (As := [.int 5]) (rest := []) ⟨hx, hb, hml, hown, hts⟩ (cq_isIn l hl9 D cy base x r 5 B A hJ.1 5 (by omega)) (cwV 1 hts gL_isDone_X5_isIn rfl rfl rfl (by decide +kernel) ⟨Nat.le_of_ble_eq_true rfl, Nat.le_of_ble_eq_true rfl⟩) (z_preV hA hS hH (l_recv hA hH)) rfl rfl hl.1 rfl (lv_room (Nat.le_of_ble_eq_true rfl)) dL_isDone_150 ⟨(by show _ ≤ (2900 : Nat); omega), (by show _ ≤ (32500 : Nat); omega)⟩) hS (fun r_k_111 u_k_111 H locs hw_k_111 hH hz_k_111 hS => ?_)
            obtain ⟨rfl, hu_k_111⟩ := hw_k_111
            rw [hu_k_111] at hH
            refine lv_aload_n hx hb dL_isDone_153 rfl (lv_at hl 5 rfl) ?_
            refine lv_bipush (v := 54) hx hb dL_isDone_154 (by decide) ?_
            refine l_iald (f := 0) (v := (B 2 5)) (by omega) hx hb hA hH 54 rfl (by rw [show lLen 0 = 60 from rfl]; omega) (hE.2.2.1 5 (by omega)).1 dL_isDone_156 ?_
            refine lv_if_ne (tgt := 164) hx hb dL_isDone_157 (by decide) (fun c_112 => ?_) (fun c_112 => ?_)
            · refine lv_iconst (v := 0) hx hb dL_isDone_164 (by decide) ?_
              refine lv_icmp_ne (tgt := 172) hx hb dL_isDone_165 (by decide) (fun c_113 => absurd (show (if B 2 5 = 0 then (1 : Int32) else 0) = 0 from if_neg c_112) c_113) (fun _ => ?_)
              refine lv_iconst (v := 1) hx hb dL_isDone_168 (by decide) ?_
              refine lv_goto (tgt := 173) hx hb dL_isDone_169 (by decide) ?_
              exact z_zret hx hb hr hlocks hH hS rfl (⟨rfl, hE, JX_mono hY (by omega)⟩) (by omega) (by omega) dL_isDone_173
            · refine lv_iconst (v := 1) hx hb dL_isDone_160 (by decide) ?_
              refine lv_goto (tgt := 165) hx hb dL_isDone_161 (by decide) ?_
              refine lv_icmp_ne (tgt := 172) hx hb dL_isDone_165 (by decide) (fun c_114 => absurd (show (if B 2 5 = 0 then (1 : Int32) else 0) = 1 from if_pos c_112) c_114) (fun _ => ?_)
              refine lv_iconst (v := 1) hx hb dL_isDone_168 (by decide) ?_
              refine lv_goto (tgt := 173) hx hb dL_isDone_169 (by decide) ?_
              exact z_zret hx hb hr hlocks hH hS rfl (⟨rfl, hE, JX_mono hY (by omega)⟩) (by omega) (by omega) dL_isDone_173
      · have c_92 := (nI_eq (a := two % 30) (b := 0) (by omega) (by omega)).mp c_92
        refine lv_sipush (v := 2001) hx hb dL_isDone_90 (by decide) ?_
        refine lv_goto (tgt := 103) hx hb dL_isDone_93 (by decide) ?_
        refine lv_istore (lv' := [(13, .int 2001), (0, .ref x), (1, .ref b), (3, .ref (r 0)), (4, .ref (r 1)), (5, .ref (r 2)), (6, .ref (r 3)), (7, .ref (r 4)), (8, .int (nI wh)), (9, .int (nI one)), (10, .int (nI two)), (11, .int (nI thr)), (12, .int (nI v9))]) hx hb dL_isDone_103 hl (by decide) rfl (fun ls hl => ?_)
        refine lv_iload hx hb dL_isDone_105 (lv_at hl 11 rfl) ?_
        refine lv_bipush (v := 17) hx hb dL_isDone_107 (by decide) ?_
        refine lv_irem hx hb dL_isDone_109 (by decide) ?_
        refine lv_eqi (pk_rem (a := thr) (d := 17) (by omega) (by omega) (by omega)) ?_
        refine lv_istore (lv' := [(14, .int (nI (thr % 17))), (13, .int 2001), (0, .ref x), (1, .ref b), (3, .ref (r 0)), (4, .ref (r 1)), (5, .ref (r 2)), (6, .ref (r 3)), (7, .ref (r 4)), (8, .int (nI wh)), (9, .int (nI one)), (10, .int (nI two)), (11, .int (nI thr)), (12, .int (nI v9))]) hx hb dL_isDone_110 hl (by decide) rfl (fun ls hl => ?_)
        refine lv_iload hx hb dL_isDone_112 (lv_at hl 1 rfl) ?_
        refine lv_sipush (v := 2001) hx hb dL_isDone_114 (by decide) ?_
        refine lv_icmp_ge (tgt := 131) hx hb dL_isDone_117 (by decide) (fun _ => ?_) (fun c_115 => absurd c_115 (by decide))
        refine lv_iconst (v := 0) hx hb dL_isDone_131 (by decide) ?_
        refine lv_istore (lv' := [(15, .int 0), (14, .int (nI (thr % 17))), (13, .int 2001), (0, .ref x), (1, .ref b), (3, .ref (r 0)), (4, .ref (r 1)), (5, .ref (r 2)), (6, .ref (r 3)), (7, .ref (r 4)), (8, .int (nI wh)), (9, .int (nI one)), (10, .int (nI two)), (11, .int (nI thr)), (12, .int (nI v9))]) hx hb dL_isDone_132 hl (by decide) rfl (fun ls hl => ?_)
        refine lv_iload hx hb dL_isDone_134 (lv_at hl 0 rfl) ?_
        refine lv_if_eq (tgt := 174) hx hb dL_isDone_136 (by decide) (fun _ => ?_) (fun c_116 => absurd c_116 (by decide))
        refine lv_iload hx hb dL_isDone_174 (lv_at hl 0 rfl) ?_
        refine lv_if_eq (tgt := 186) hx hb dL_isDone_176 (by decide) (fun _ => ?_) (fun c_117 => absurd c_117 (by decide))
        refine lv_bipush (v := (-20)) hx hb dL_isDone_186 (by decide) ?_
        refine lv_istore (lv' := [(16, .int (-20)), (15, .int 0), (14, .int (nI (thr % 17))), (13, .int 2001), (0, .ref x), (1, .ref b), (3, .ref (r 0)), (4, .ref (r 1)), (5, .ref (r 2)), (6, .ref (r 3)), (7, .ref (r 4)), (8, .int (nI wh)), (9, .int (nI one)), (10, .int (nI two)), (11, .int (nI thr)), (12, .int (nI v9))]) hx hb dL_isDone_188 hl (by decide) rfl (fun ls hl => ?_)
        refine lv_iload hx hb dL_isDone_190 (lv_at hl 1 rfl) ?_
        refine lv_if_eq (tgt := 246) hx hb dL_isDone_192 (by decide) (fun _ => ?_) (fun c_118 => absurd c_118 (by decide))
        refine lv_aload_n hx hb dL_isDone_246 rfl (lv_at hl 4 rfl) ?_
        refine lv_iconst (v := 0) hx hb dL_isDone_247 (by decide) ?_
        refine lv_iload hx hb dL_isDone_248 (lv_at hl 3 rfl) ?_
        refine lv_iload hx hb dL_isDone_250 (lv_at hl 2 rfl) ?_
        refine lv_iconst (v := 0) hx hb dL_isDone_252 (by decide) ?_
        refine lv_iconst (v := 0) hx hb dL_isDone_253 (by decide) ?_
        refine z_xcalli (vx_runSX (As := [.ref x, .int 0, .int 2001, .int (nI (thr % 17)), .int 0, .int 0]) (rest := []) ⟨hx, hb, hml, hown, hts⟩ (zx_admit_1 l hl9 D cy base x r 5 B A 2001 (nI (thr % 17)) 0 0 (cdAdmit1 (t := 2001) (k := thr % 17) hJ.1 (by omega) (by omega) (by omega))) (vx_cwSW 6 hts gL_isDone_L_does rfl rfl rfl (by decide +kernel) ⟨Nat.le_of_ble_eq_true rfl, Nat.le_of_ble_eq_true rfl⟩) (z_preS hA hS hH) rfl rfl hl.1 rfl (lv_room (Nat.le_of_ble_eq_true rfl)) dL_isDone_254 ⟨(by show _ ≤ (2900 : Nat); omega), (by show _ ≤ (32500 : Nat); omega)⟩) hS (fun E9 ce9 q9 u9 H locs hw9 hH hz9 hS hce9 hv9 hcl9 => hw9.elim) (fun r_k_119 u_k_119 H locs hw_k_119 hH hz_k_119 hS => ?_)
        obtain ⟨rfl, hu_k_119⟩ := hw_k_119
        rw [hu_k_119] at hH
        refine lv_iload hx hb dL_isDone_257 (lv_at hl 0 rfl) ?_
        refine lv_icmp_ne (tgt := 292) hx hb dL_isDone_259 (by decide) (fun c_120 => absurd c_120 (by decide)) (fun _ => ?_)
        refine lv_iload hx hb dL_isDone_262 (lv_at hl 0 rfl) ?_
        refine lv_if_lt (tgt := 288) hx hb dL_isDone_264 (by decide) (fun _ => ?_) (fun c_121 => absurd c_121 (by decide))
        refine lv_iconst (v := 1) hx hb dL_isDone_288 (by decide) ?_
        refine lv_goto (tgt := 293) hx hb dL_isDone_289 (by decide) ?_
        exact z_zret hx hb hr hlocks hH hS rfl (⟨rfl, hE, JX_mono hY (by omega)⟩) (by omega) (by omega) dL_isDone_293
  · refine lv_iload hx hb dL_isDone_45 (lv_at hl 2 rfl) ?_
    refine lv_bipush (v := 20) hx hb dL_isDone_47 (by decide) ?_
    refine lv_irem hx hb dL_isDone_49 (by decide) ?_
    refine lv_eqi (pk_rem (a := one) (d := 20) (by omega) (by omega) (by omega)) ?_
    refine lv_if_eq (tgt := 60) hx hb dL_isDone_50 (by decide) (fun c_122 => ?_) (fun c_122 => ?_)
    · have c_122 := (nI_eq (a := one % 20) (b := 0) (by omega) (by omega)).mp c_122
      refine lv_aload hx hb dL_isDone_60 (lv_at hl 11 rfl) ?_
      refine lv_iconst (v := 1) hx hb dL_isDone_62 (by decide) ?_
      refine l_iald (f := 4) (v := (nI (nP B))) (by omega) hx hb hA hH 1 rfl (by rw [show lLen 4 = 3 from rfl]; omega) hE.1.2.2.1 dL_isDone_63 ?_
      refine lv_goto (tgt := 74) hx hb dL_isDone_64 (by decide) ?_
      refine lv_istore (lv' := [(12, .int (nI (nP B))), (11, .int (nI thr)), (10, .int (nI two)), (9, .int (nI one)), (8, .int (nI wh)), (0, .ref x), (1, .ref b), (2, .int (nI (4 * k))), (3, .ref (r 0)), (4, .ref (r 1)), (5, .ref (r 2)), (6, .ref (r 3)), (7, .ref (r 4))]) hx hb dL_isDone_74 hl (by decide) rfl (fun ls hl => ?_)
      have hl_123 : lv_has ls 19 [(0, .ref x), (1, .ref b), (3, .ref (r 0)), (4, .ref (r 1)), (5, .ref (r 2)), (6, .ref (r 3)), (7, .ref (r 4)), (8, .int (nI wh)), (9, .int (nI one)), (10, .int (nI two)), (11, .int (nI thr)), (12, .int (nI (nP B)))] := lv_sub hl [5, 6, 8, 9, 10, 11, 12, 4, 3, 2, 1, 0] rfl
      exact hrest (nP B) _ (Nat.le_refl _) hl_123
    · have c_122 : ¬ (one % 20 = 0) := fun z => c_122 ((nI_eq (a := one % 20) (b := 0) (by omega) (by omega)).mpr z)
      refine lv_aload hx hb dL_isDone_53 (lv_at hl 11 rfl) ?_
      refine lv_iconst (v := 1) hx hb dL_isDone_55 (by decide) ?_
      refine l_iald (f := 4) (v := (nI (nP B))) (by omega) hx hb hA hH 1 rfl (by rw [show lLen 4 = 3 from rfl]; omega) hE.1.2.2.1 dL_isDone_56 ?_
      refine lv_if_ne (tgt := 67) hx hb dL_isDone_57 (by decide) (fun c_124 => ?_) (fun c_124 => ?_)
      · have c_124 : ¬ (nP B = 0) := fun z => c_124 ((nI_eq (a := nP B) (b := 0) (by omega) (by omega)).mpr z)
        refine lv_iload hx hb dL_isDone_67 (lv_at hl 2 rfl) ?_
        refine lv_aload hx hb dL_isDone_69 (lv_at hl 11 rfl) ?_
        refine lv_iconst (v := 1) hx hb dL_isDone_71 (by decide) ?_
        refine l_iald (f := 4) (v := (nI (nP B))) (by omega) hx hb hA hH 1 rfl (by rw [show lLen 4 = 3 from rfl]; omega) hE.1.2.2.1 dL_isDone_72 ?_
        refine lv_irem hx hb dL_isDone_73 (nI_ne0 (by omega) (by omega)) ?_
        refine lv_eqi (pk_rem (a := one) (d := nP B) (by omega) (by omega) (by omega)) ?_
        refine lv_istore (lv' := [(12, .int (nI (one % nP B))), (11, .int (nI thr)), (10, .int (nI two)), (9, .int (nI one)), (8, .int (nI wh)), (0, .ref x), (1, .ref b), (2, .int (nI (4 * k))), (3, .ref (r 0)), (4, .ref (r 1)), (5, .ref (r 2)), (6, .ref (r 3)), (7, .ref (r 4))]) hx hb dL_isDone_74 hl (by decide) rfl (fun ls hl => ?_)
        have hl_125 : lv_has ls 19 [(0, .ref x), (1, .ref b), (3, .ref (r 0)), (4, .ref (r 1)), (5, .ref (r 2)), (6, .ref (r 3)), (7, .ref (r 4)), (8, .int (nI wh)), (9, .int (nI one)), (10, .int (nI two)), (11, .int (nI thr)), (12, .int (nI (one % nP B)))] := lv_sub hl [5, 6, 8, 9, 10, 11, 12, 4, 3, 2, 1, 0] rfl
        exact hrest (one % nP B) _ (Nat.le_of_lt (Nat.mod_lt _ (by omega))) hl_125
      · have c_124 := (nI_eq (a := nP B) (b := 0) (by omega) (by omega)).mp c_124
        refine lv_aload hx hb dL_isDone_60 (lv_at hl 11 rfl) ?_
        refine lv_iconst (v := 1) hx hb dL_isDone_62 (by decide) ?_
        refine l_iald (f := 4) (v := (nI (nP B))) (by omega) hx hb hA hH 1 rfl (by rw [show lLen 4 = 3 from rfl]; omega) hE.1.2.2.1 dL_isDone_63 ?_
        refine lv_goto (tgt := 74) hx hb dL_isDone_64 (by decide) ?_
        refine lv_istore (lv' := [(12, .int (nI (nP B))), (11, .int (nI thr)), (10, .int (nI two)), (9, .int (nI one)), (8, .int (nI wh)), (0, .ref x), (1, .ref b), (2, .int (nI (4 * k))), (3, .ref (r 0)), (4, .ref (r 1)), (5, .ref (r 2)), (6, .ref (r 3)), (7, .ref (r 4))]) hx hb dL_isDone_74 hl (by decide) rfl (fun ls hl => ?_)
        have hl_126 : lv_has ls 19 [(0, .ref x), (1, .ref b), (3, .ref (r 0)), (4, .ref (r 1)), (5, .ref (r 2)), (6, .ref (r 3)), (7, .ref (r 4)), (8, .int (nI wh)), (9, .int (nI one)), (10, .int (nI two)), (11, .int (nI thr)), (12, .int (nI (nP B)))] := lv_sub hl [5, 6, 8, 9, 10, 11, 12, 4, 3, 2, 1, 0] rfl
        exact hrest (nP B) _ (Nat.le_refl _) hl_126
