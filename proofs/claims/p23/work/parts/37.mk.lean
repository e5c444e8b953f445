set_option maxHeartbeats 4000000 in
set_option maxRecDepth 100000 in
theorem c5_init (l : Launch) (D : va_G) (cy : Nat → ClassId) (base : Nat) (w : zW) (x : Nat) (k_x : zK w x = 6) (hz : zI w 503 x = 0 ∧ zI w 504 x = 0 ∧ zI w 505 x = 0) : Met l yX5_init wsX5_init ({ frames := 2, cells := 6, slots := 27, locals := 40 }) (zPc D cy base (zH D cy base) [.ref x] w) (zQv base (zH D cy base) (fun (u0 : zW) => Rep u0 x mB0 ∧ cFr w u0)) 6 27 (fun q => base ≤ q) := by
  refine Met.ofW (cc := cX5_init) (maxL := 2) (ret := none) (by decide) rfl ?_
  intro p e s m args below meth c s₁ B9 hml hv
  obtain ⟨rfl, hA, hH⟩ := hv
  have hx := B9.exec
  have hb := B9.bytes
  have hr := B9.returns
  have hts := atoms_spec (ws := wsX5_init) B9.pre
  have hown : s.vm.findClass RX5 = some m.cls := findClass_of_methodNamed B9.named
  have hlocks := B9.notSynchronized
  have hin : meth.name = "<init>" := (name_of_methodNamed B9.named B9.method).1
  have hi4 : ∀ w ∈ wsX40, w ∈ wsX5_init := by decide +kernel
  have hi5 : ∀ w ∈ wsX50, w ∈ wsX5_init := by decide +kernel
  have hS : va_S (fun q : Nat => base ≤ q) s.heap s.heap [] := va_S.rf
  have hl := lv_entry ([.ref x]) (n := 2) (Nat.le_of_ble_eq_true rfl)
  rw [lg_entry_eq]
  generalize (lg_sl ([.ref x]) ++ List.replicate (2 - (lg_sl ([.ref x])).length) Slot.unset).toArray = ls at hl ⊢
  have hl : lv_has ls 2 [(0, .ref x)] := hl
  refine lv_aload_n hx hb dX5_init_0 rfl (lv_at hl 0 rfl) ?_
  refine W.objInit hx hb hown (hts (.methodLink RX5 1 objectInit) (by decide +kernel)) (hts (.instanceMethod objectInit) (by decide +kernel)) (hts (.code objectInit ⟨#[0xb1]⟩ 1 none) (by decide +kernel)) rfl (by rw [hml]; exact hl.1) rfl dX5_init_1 (Nat.le_of_ble_eq_true rfl) (Nat.le_of_ble_eq_true rfl) ?_
  refine W.eq (g2 := F0 m 4 ls []) rfl ?_
  refine lv_aload_n hx hb dX5_init_4 rfl (lv_at hl 0 rfl) ?_
  refine lv_bipush (v := 10) hx hb dX5_init_5 (by decide) ?_
  refine z_newq (k := 12) (t0 := 4) (N' := 10) hx hb hown (hts (.classLink RX5 9 RX2) (by decide +kernel)) hA.2.2.2.2.2.1.2.2.1 hA hH hS rfl (fun q => znew_a12 q 10) (by decide) (by decide) (Nat.le_of_ble_eq_true rfl) (Nat.le_of_ble_eq_true rfl) (Nat.le_of_ble_eq_true rfl) dX5_init_7 (fun A H hn_1 hH hS => ?_)
  have f_2 := ((zNew_old (k := 12) (n := 10) hn_1 (zk0 k_x (by decide))).2.1).trans k_x
  have f_3 := (zNew_new (w := w) (q := A) (k := 12) (n := 10)).1
  have f_4 := (zNew_new (w := w) (q := A) (k := 12) (n := 10)).2.2.2.1
  refine z_putF (C := RX5) (T := TX5) (N := 6) (ci := 5) (index := 11) (v := .ref A) (ty := .array (.object "ParoleCards$Person")) hx hb hts hi5 tyX5 tyX5_ok nmX5 hown hA hH hS (zk0 f_2 (by decide)) (zE_k6 f_2) rfl 0 (by decide) (hts (.fieldLink RX5 11 "ParoleCards" "people" "[LParoleCards$Person;") (by decide +kernel)) (fun _ h9 => h9) rfl hin rfl (by decide +kernel) rfl rfl (Nat.le_of_ble_eq_true rfl) (w' := zsP (zNew w A 12 10) 500 x (some A)) (zs_500 (w := (zNew w A 12 10)) f_2 _) (zsP_oth (zNew w A 12 10) 500 x _) (fun _ => rfl) dX5_init_10 (fun H locs hH hS => ?_)
  refine lv_aload_n hx hb dX5_init_13 rfl (lv_at hl 0 rfl) ?_
  refine lv_bipush (v := 8) hx hb dX5_init_14 (by decide) ?_
  refine z_newq (k := 11) (t0 := 3) (N' := 8) hx hb hown (hts (.classLink RX5 15 RX1) (by decide +kernel)) hA.2.2.2.2.2.1.2.1 hA hH hS rfl (fun q => znew_a11 q 8) (by decide) (by decide) (Nat.le_of_ble_eq_true rfl) (Nat.le_of_ble_eq_true rfl) (Nat.le_of_ble_eq_true rfl) dX5_init_16 (fun O H hn_5 hH hS => ?_)
  have f_6 := ((zNew_old (k := 11) (n := 8) hn_5 (zk0 f_2 (by decide))).2.1).trans f_2
  have f_7 := ((zNew_old (k := 11) (n := 8) hn_5 (zk0 f_3 (by decide))).2.1).trans f_3
  have f_8 := ((zNew_old (k := 11) (n := 8) hn_5 (zk0 f_3 (by decide))).2.2.2.2.1).trans f_4
  have f_9 := (zNew_new (w := (zsP (zNew w A 12 10) 500 x (some A))) (q := O) (k := 11) (n := 8)).1
  have f_10 := (zNew_new (w := (zsP (zNew w A 12 10) 500 x (some A))) (q := O) (k := 11) (n := 8)).2.2.2.1
  refine z_putF (C := RX5) (T := TX5) (N := 6) (ci := 5) (index := 17) (v := .ref O) (ty := .array (.object "ParoleCards$Order")) hx hb hts hi5 tyX5 tyX5_ok nmX5 hown hA hH hS (zk0 f_6 (by decide)) (zE_k6 f_6) rfl 1 (by decide) (hts (.fieldLink RX5 17 "ParoleCards" "orders" "[LParoleCards$Order;") (by decide +kernel)) (fun _ h9 => h9) rfl hin rfl (by decide +kernel) rfl rfl (Nat.le_of_ble_eq_true rfl) (w' := zsP (zNew (zsP (zNew w A 12 10) 500 x (some A)) O 11 8) 501 x (some O)) (zs_501 (w := (zNew (zsP (zNew w A 12 10) 500 x (some A)) O 11 8)) f_6 _) (zsP_oth (zNew (zsP (zNew w A 12 10) 500 x (some A)) O 11 8) 501 x _) (fun _ => rfl) dX5_init_19 (fun H locs hH hS => ?_)
  refine lv_aload_n hx hb dX5_init_22 rfl (lv_at hl 0 rfl) ?_
  refine lv_iconst (v := 3) hx hb dX5_init_23 (by decide) ?_
  refine z_newq (k := 13) (t0 := 5) (N' := 3) hx hb hown (hts (.classLink RX5 21 RX4) (by decide +kernel)) hA.2.2.2.2.2.1.2.2.2 hA hH hS rfl (fun q => znew_a13 q 3) (by decide) (by decide) (Nat.le_of_ble_eq_true rfl) (Nat.le_of_ble_eq_true rfl) (Nat.le_of_ble_eq_true rfl) dX5_init_24 (fun T H hn_11 hH hS => ?_)
  have f_12 := ((zNew_old (k := 13) (n := 3) hn_11 (zk0 f_6 (by decide))).2.1).trans f_6
  have f_13 := ((zNew_old (k := 13) (n := 3) hn_11 (zk0 f_7 (by decide))).2.1).trans f_7
  have f_14 := ((zNew_old (k := 13) (n := 3) hn_11 (zk0 f_7 (by decide))).2.2.2.2.1).trans f_8
  have f_15 := ((zNew_old (k := 13) (n := 3) hn_11 (zk0 f_9 (by decide))).2.1).trans f_9
  have f_16 := ((zNew_old (k := 13) (n := 3) hn_11 (zk0 f_9 (by decide))).2.2.2.2.1).trans f_10
  have f_17 := (zNew_new (w := (zsP (zNew (zsP (zNew w A 12 10) 500 x (some A)) O 11 8) 501 x (some O))) (q := T) (k := 13) (n := 3)).1
  have f_18 := (zNew_new (w := (zsP (zNew (zsP (zNew w A 12 10) 500 x (some A)) O 11 8) 501 x (some O))) (q := T) (k := 13) (n := 3)).2.2.2.1
  refine z_putF (C := RX5) (T := TX5) (N := 6) (ci := 5) (index := 23) (v := .ref T) (ty := .array (.object "ParoleCards$ToolKind")) hx hb hts hi5 tyX5 tyX5_ok nmX5 hown hA hH hS (zk0 f_12 (by decide)) (zE_k6 f_12) rfl 2 (by decide) (hts (.fieldLink RX5 23 "ParoleCards" "toolKinds" "[LParoleCards$ToolKind;") (by decide +kernel)) (fun _ h9 => h9) rfl hin rfl (by decide +kernel) rfl rfl (Nat.le_of_ble_eq_true rfl) (w' := zsP (zNew (zsP (zNew (zsP (zNew w A 12 10) 500 x (some A)) O 11 8) 501 x (some O)) T 13 3) 502 x (some T)) (zs_502 (w := (zNew (zsP (zNew (zsP (zNew w A 12 10) 500 x (some A)) O 11 8) 501 x (some O)) T 13 3)) f_12 _) (zsP_oth (zNew (zsP (zNew (zsP (zNew w A 12 10) 500 x (some A)) O 11 8) 501 x (some O)) T 13 3) 502 x _) (fun _ => rfl) dX5_init_27 (fun H locs hH hS => ?_)
  have hT := it_start k_x hz.1 hz.2.1 hz.2.2 hn_1 hn_5 hn_11
  obtain ⟨u0, hu⟩ : ∃ u0 : zW, u0 = (zsP (zNew (zsP (zNew (zsP (zNew w A 12 10) 500 x (some A)) O 11 8) 501 x (some O)) T 13 3) 502 x (some T)) := ⟨_, rfl⟩
  rw [← hu] at hH hT
  clear hu
  obtain ⟨⟨k_x, -, -, -, p500, p501, p502⟩, ⟨k_A, n_A, k_O, n_O, k_T, n_T⟩, -⟩ := id hT
  refine lv_iconst (v := 0) hx hb dX5_init_30 (by decide) ?_
  refine lv_istore_n (lv' := [(1, .int 0), (0, .ref x)]) hx hb dX5_init_31 rfl hl (by decide) rfl (fun ls hl => ?_)
  refine lv_iload_n hx hb dX5_init_32 rfl (lv_at hl 0 rfl) ?_
  refine lv_aload_n hx hb dX5_init_33 rfl (lv_at hl 1 rfl) ?_
  refine z_get (C := RX5) (T := TX5) (N := 6) (ci := 5) (index := 23) (v := .ref T) hx hb hts hi5 hown hA hH (zk0 k_x (by decide)) (zE_k6 k_x) rfl 2 (by decide) (hts (.fieldLink RX5 23 "ParoleCards" "toolKinds" "[LParoleCards$ToolKind;") (by decide +kernel)) (fun _ h9 => h9) (congrArg (fun z => some (va_rf z)) p502) dX5_init_34 ?_
  refine z_alen (v := 3) hx hb hA hH (zk0 k_T (by decide)) (zE_k13 k_T) 5 rfl (congrArg Int32.ofNat n_T) dX5_init_37 ?_
  refine lv_icmp_ge (tgt := 60) hx hb dX5_init_38 (by decide) (fun c_19 => absurd c_19 (by decide)) (fun _ => ?_)
  refine lv_aload_n hx hb dX5_init_41 rfl (lv_at hl 1 rfl) ?_
  refine z_get (C := RX5) (T := TX5) (N := 6) (ci := 5) (index := 23) (v := .ref T) hx hb hts hi5 hown hA hH (zk0 k_x (by decide)) (zE_k6 k_x) rfl 2 (by decide) (hts (.fieldLink RX5 23 "ParoleCards" "toolKinds" "[LParoleCards$ToolKind;") (by decide +kernel)) (fun _ h9 => h9) (congrArg (fun z => some (va_rf z)) p502) dX5_init_42 ?_
  refine lv_iload_n hx hb dX5_init_45 rfl (lv_at hl 0 rfl) ?_
  refine z_new (C := RX4) (T := TX4) (N := 2) (ci := 4) (k := 5) (index := 21) hx hb hts hi4 tyX4 tyX4_ok hown (hts (.classLink RX5 21 RX4) (by decide +kernel)) (hts (.instantiable RX4 2) (by decide +kernel)) (hts (.initialized RX4) (by decide +kernel)) hA hH hS rfl zdf_4 (fun q => znew_4 q) (Nat.le_of_ble_eq_true rfl) (Nat.le_of_ble_eq_true rfl) dX5_init_46 (fun q0 H hn_20 hH hS => ?_)
  have f_21 := ((zNew_old (k := 5) (n := 0) hn_20 (zk0 k_x (by decide))).2.1).trans k_x
  have f_22 := ((zNew_old (k := 5) (n := 0) hn_20 (zk0 k_x (by decide))).2.2.2.1 502).trans p502
  have f_23 := ((zNew_old (k := 5) (n := 0) hn_20 (zk0 k_T (by decide))).2.1).trans k_T
  have f_24 := ((zNew_old (k := 5) (n := 0) hn_20 (zk0 k_T (by decide))).2.2.2.2.1).trans n_T
  have f_25 := (zNew_new (w := u0) (q := q0) (k := 5) (n := 0)).1
  refine lv_dup hx hb dX5_init_49 rfl ?_
  refine z_callv (va_runIN (As := []) (rest := [.ref q0, .int 0, .ref T]) ⟨hx, hb, hml, hown, hts⟩ (c4_init l D cy base (zNew u0 q0 5 0) q0 f_25) ⟨va_cnB 0 hts gX5_init_X4_init_n27 rfl rfl rfl hA.2.2.2.2.2.2.2.2.2.2 (hts (.initialized RX4) (by decide +kernel)) (by decide +kernel) ⟨Nat.le_of_ble_eq_true rfl, Nat.le_of_ble_eq_true rfl⟩, rfl, (hts (.instanceMethod yX4_init) (by decide +kernel))⟩ (z_preS hA hS hH) rfl rfl hl.1 rfl (lv_room (Nat.le_of_ble_eq_true rfl)) dX5_init_50 ⟨Nat.le_of_ble_eq_true rfl, Nat.le_of_ble_eq_true rfl⟩) hS (fun u_k_26 H locs hw_k_26 hH hz_k_26 hS => ?_)
  have hu_k_26 := hw_k_26
  rw [hu_k_26] at hH
  refine z_aast (r := (RX4, TX4, 2)) (ci := 4) hx hb hA hH hS (zk0 f_23 (by decide)) (zEn (zE_k13 f_23) f_24) 5 rfl (zk0 f_25 (by decide)) (zE_k5 f_25) rfl 0 rfl (by omega) (by decide) (w' := zsQ (zNew u0 q0 5 0) T 0 (some q0)) (zEn (zst_13 (w := (zNew u0 q0 5 0)) f_23 _ _) f_24) (zsQ_oth (zNew u0 q0 5 0) T 0 _) (fun _ => rfl) dX5_init_53 (fun H locs hH hS => ?_)
  have hT := it_step (k := 0) hT hn_20
  obtain ⟨u1, hu⟩ : ∃ u1 : zW, u1 = (zsQ (zNew u0 q0 5 0) T 0 (some q0)) := ⟨_, rfl⟩
  rw [← hu] at hH hT
  clear hu
  obtain ⟨⟨k_x, -, -, -, p500, p501, p502⟩, ⟨k_A, n_A, k_O, n_O, k_T, n_T⟩, -⟩ := id hT
  refine lv_iinc (v := (0 + 1)) (lv' := [(1, .int (0 + 1)), (0, .ref x)]) hx hb dX5_init_54 hl (k := 0) rfl rfl (by decide) rfl (fun ls hl => ?_)
  rw [show ((0 + 1 : Int32)) = 1 from rfl] at hl
  refine lv_goto (tgt := 32) hx hb dX5_init_57 (by decide) ?_
  refine lv_iload_n hx hb dX5_init_32 rfl (lv_at hl 0 rfl) ?_
  refine lv_aload_n hx hb dX5_init_33 rfl (lv_at hl 1 rfl) ?_
  refine z_get (C := RX5) (T := TX5) (N := 6) (ci := 5) (index := 23) (v := .ref T) hx hb hts hi5 hown hA hH (zk0 k_x (by decide)) (zE_k6 k_x) rfl 2 (by decide) (hts (.fieldLink RX5 23 "ParoleCards" "toolKinds" "[LParoleCards$ToolKind;") (by decide +kernel)) (fun _ h9 => h9) (congrArg (fun z => some (va_rf z)) p502) dX5_init_34 ?_
  refine z_alen (v := 3) hx hb hA hH (zk0 k_T (by decide)) (zE_k13 k_T) 5 rfl (congrArg Int32.ofNat n_T) dX5_init_37 ?_
  refine lv_icmp_ge (tgt := 60) hx hb dX5_init_38 (by decide) (fun c_27 => absurd c_27 (by decide)) (fun _ => ?_)
  refine lv_aload_n hx hb dX5_init_41 rfl (lv_at hl 1 rfl) ?_
  refine z_get (C := RX5) (T := TX5) (N := 6) (ci := 5) (index := 23) (v := .ref T) hx hb hts hi5 hown hA hH (zk0 k_x (by decide)) (zE_k6 k_x) rfl 2 (by decide) (hts (.fieldLink RX5 23 "ParoleCards" "toolKinds" "[LParoleCards$ToolKind;") (by decide +kernel)) (fun _ h9 => h9) (congrArg (fun z => some (va_rf z)) p502) dX5_init_42 ?_
  refine lv_iload_n hx hb dX5_init_45 rfl (lv_at hl 0 rfl) ?_
  refine z_new (C := RX4) (T := TX4) (N := 2) (ci := 4) (k := 5) (index := 21) hx hb hts hi4 tyX4 tyX4_ok hown (hts (.classLink RX5 21 RX4) (by decide +kernel)) (hts (.instantiable RX4 2) (by decide +kernel)) (hts (.initialized RX4) (by decide +kernel)) hA hH hS rfl zdf_4 (fun q => znew_4 q) (Nat.le_of_ble_eq_true rfl) (Nat.le_of_ble_eq_true rfl) dX5_init_46 (fun q1 H hn_28 hH hS => ?_)
  have f_29 := ((zNew_old (k := 5) (n := 0) hn_28 (zk0 k_x (by decide))).2.1).trans k_x
  have f_30 := ((zNew_old (k := 5) (n := 0) hn_28 (zk0 k_x (by decide))).2.2.2.1 502).trans p502
  have f_31 := ((zNew_old (k := 5) (n := 0) hn_28 (zk0 k_T (by decide))).2.1).trans k_T
  have f_32 := ((zNew_old (k := 5) (n := 0) hn_28 (zk0 k_T (by decide))).2.2.2.2.1).trans n_T
  have f_33 := (zNew_new (w := u1) (q := q1) (k := 5) (n := 0)).1
  refine lv_dup hx hb dX5_init_49 rfl ?_
  refine z_callv (va_runIN (As := []) (rest := [.ref q1, .int 1, .ref T]) ⟨hx, hb, hml, hown, hts⟩ (c4_init l D cy base (zNew u1 q1 5 0) q1 f_33) ⟨va_cnB 0 hts gX5_init_X4_init_n27 rfl rfl rfl hA.2.2.2.2.2.2.2.2.2.2 (hts (.initialized RX4) (by decide +kernel)) (by decide +kernel) ⟨Nat.le_of_ble_eq_true rfl, Nat.le_of_ble_eq_true rfl⟩, rfl, (hts (.instanceMethod yX4_init) (by decide +kernel))⟩ (z_preS hA hS hH) rfl rfl hl.1 rfl (lv_room (Nat.le_of_ble_eq_true rfl)) dX5_init_50 ⟨Nat.le_of_ble_eq_true rfl, Nat.le_of_ble_eq_true rfl⟩) hS (fun u_k_34 H locs hw_k_34 hH hz_k_34 hS => ?_)
  have hu_k_34 := hw_k_34
  rw [hu_k_34] at hH
  refine z_aast (r := (RX4, TX4, 2)) (ci := 4) hx hb hA hH hS (zk0 f_31 (by decide)) (zEn (zE_k13 f_31) f_32) 5 rfl (zk0 f_33 (by decide)) (zE_k5 f_33) rfl 1 rfl (by omega) (by decide) (w' := zsQ (zNew u1 q1 5 0) T 1 (some q1)) (zEn (zst_13 (w := (zNew u1 q1 5 0)) f_31 _ _) f_32) (zsQ_oth (zNew u1 q1 5 0) T 1 _) (fun _ => rfl) dX5_init_53 (fun H locs hH hS => ?_)
  have hT := it_step (k := 1) hT hn_28
  obtain ⟨u2, hu⟩ : ∃ u2 : zW, u2 = (zsQ (zNew u1 q1 5 0) T 1 (some q1)) := ⟨_, rfl⟩
  rw [← hu] at hH hT
  clear hu
  obtain ⟨⟨k_x, -, -, -, p500, p501, p502⟩, ⟨k_A, n_A, k_O, n_O, k_T, n_T⟩, -⟩ := id hT
  refine lv_iinc (v := (1 + 1)) (lv' := [(1, .int (1 + 1)), (0, .ref x)]) hx hb dX5_init_54 hl (k := 0) rfl rfl (by decide) rfl (fun ls hl => ?_)
  rw [show ((1 + 1 : Int32)) = 2 from rfl] at hl
  refine lv_goto (tgt := 32) hx hb dX5_init_57 (by decide) ?_
  refine lv_iload_n hx hb dX5_init_32 rfl (lv_at hl 0 rfl) ?_
  refine lv_aload_n hx hb dX5_init_33 rfl (lv_at hl 1 rfl) ?_
  refine z_get (C := RX5) (T := TX5) (N := 6) (ci := 5) (index := 23) (v := .ref T) hx hb hts hi5 hown hA hH (zk0 k_x (by decide)) (zE_k6 k_x) rfl 2 (by decide) (hts (.fieldLink RX5 23 "ParoleCards" "toolKinds" "[LParoleCards$ToolKind;") (by decide +kernel)) (fun _ h9 => h9) (congrArg (fun z => some (va_rf z)) p502) dX5_init_34 ?_
  refine z_alen (v := 3) hx hb hA hH (zk0 k_T (by decide)) (zE_k13 k_T) 5 rfl (congrArg Int32.ofNat n_T) dX5_init_37 ?_
  refine lv_icmp_ge (tgt := 60) hx hb dX5_init_38 (by decide) (fun c_35 => absurd c_35 (by decide)) (fun _ => ?_)
  refine lv_aload_n hx hb dX5_init_41 rfl (lv_at hl 1 rfl) ?_
  refine z_get (C := RX5) (T := TX5) (N := 6) (ci := 5) (index := 23) (v := .ref T) hx hb hts hi5 hown hA hH (zk0 k_x (by decide)) (zE_k6 k_x) rfl 2 (by decide) (hts (.fieldLink RX5 23 "ParoleCards" "toolKinds" "[LParoleCards$ToolKind;") (by decide +kernel)) (fun _ h9 => h9) (congrArg (fun z => some (va_rf z)) p502) dX5_init_42 ?_
  refine lv_iload_n hx hb dX5_init_45 rfl (lv_at hl 0 rfl) ?_
  refine z_new (C := RX4) (T := TX4) (N := 2) (ci := 4) (k := 5) (index := 21) hx hb hts hi4 tyX4 tyX4_ok hown (hts (.classLink RX5 21 RX4) (by decide +kernel)) (hts (.instantiable RX4 2) (by decide +kernel)) (hts (.initialized RX4) (by decide +kernel)) hA hH hS rfl zdf_4 (fun q => znew_4 q) (Nat.le_of_ble_eq_true rfl) (Nat.le_of_ble_eq_true rfl) dX5_init_46 (fun q2 H hn_36 hH hS => ?_)
  have f_37 := ((zNew_old (k := 5) (n := 0) hn_36 (zk0 k_x (by decide))).2.1).trans k_x
  have f_38 := ((zNew_old (k := 5) (n := 0) hn_36 (zk0 k_x (by decide))).2.2.2.1 502).trans p502
  have f_39 := ((zNew_old (k := 5) (n := 0) hn_36 (zk0 k_T (by decide))).2.1).trans k_T
  have f_40 := ((zNew_old (k := 5) (n := 0) hn_36 (zk0 k_T (by decide))).2.2.2.2.1).trans n_T
  have f_41 := (zNew_new (w := u2) (q := q2) (k := 5) (n := 0)).1
  refine lv_dup hx hb dX5_init_49 rfl ?_
  refine z_callv (va_runIN (As := []) (rest := [.ref q2, .int 2, .ref T]) ⟨hx, hb, hml, hown, hts⟩ (c4_init l D cy base (zNew u2 q2 5 0) q2 f_41) ⟨va_cnB 0 hts gX5_init_X4_init_n27 rfl rfl rfl hA.2.2.2.2.2.2.2.2.2.2 (hts (.initialized RX4) (by decide +kernel)) (by decide +kernel) ⟨Nat.le_of_ble_eq_true rfl, Nat.le_of_ble_eq_true rfl⟩, rfl, (hts (.instanceMethod yX4_init) (by decide +kernel))⟩ (z_preS hA hS hH) rfl rfl hl.1 rfl (lv_room (Nat.le_of_ble_eq_true rfl)) dX5_init_50 ⟨Nat.le_of_ble_eq_true rfl, Nat.le_of_ble_eq_true rfl⟩) hS (fun u_k_42 H locs hw_k_42 hH hz_k_42 hS => ?_)
  have hu_k_42 := hw_k_42
  rw [hu_k_42] at hH
  refine z_aast (r := (RX4, TX4, 2)) (ci := 4) hx hb hA hH hS (zk0 f_39 (by decide)) (zEn (zE_k13 f_39) f_40) 5 rfl (zk0 f_41 (by decide)) (zE_k5 f_41) rfl 2 rfl (by omega) (by decide) (w' := zsQ (zNew u2 q2 5 0) T 2 (some q2)) (zEn (zst_13 (w := (zNew u2 q2 5 0)) f_39 _ _) f_40) (zsQ_oth (zNew u2 q2 5 0) T 2 _) (fun _ => rfl) dX5_init_53 (fun H locs hH hS => ?_)
  have hT := it_step (k := 2) hT hn_36
  obtain ⟨u3, hu⟩ : ∃ u3 : zW, u3 = (zsQ (zNew u2 q2 5 0) T 2 (some q2)) := ⟨_, rfl⟩
  rw [← hu] at hH hT
  clear hu
  obtain ⟨⟨k_x, -, -, -, p500, p501, p502⟩, ⟨k_A, n_A, k_O, n_O, k_T, n_T⟩, -⟩ := id hT
  refine lv_iinc (v := (2 + 1)) (lv' := [(1, .int (2 + 1)), (0, .ref x)]) hx hb dX5_init_54 hl (k := 0) rfl rfl (by decide) rfl (fun ls hl => ?_)
  rw [show ((2 + 1 : Int32)) = 3 from rfl] at hl
  refine lv_goto (tgt := 32) hx hb dX5_init_57 (by decide) ?_
  refine lv_iload_n hx hb dX5_init_32 rfl (lv_at hl 0 rfl) ?_
  refine lv_aload_n hx hb dX5_init_33 rfl (lv_at hl 1 rfl) ?_
  refine z_get (C := RX5) (T := TX5) (N := 6) (ci := 5) (index := 23) (v := .ref T) hx hb hts hi5 hown hA hH (zk0 k_x (by decide)) (zE_k6 k_x) rfl 2 (by decide) (hts (.fieldLink RX5 23 "ParoleCards" "toolKinds" "[LParoleCards$ToolKind;") (by decide +kernel)) (fun _ h9 => h9) (congrArg (fun z => some (va_rf z)) p502) dX5_init_34 ?_
  refine z_alen (v := 3) hx hb hA hH (zk0 k_T (by decide)) (zE_k13 k_T) 5 rfl (congrArg Int32.ofNat n_T) dX5_init_37 ?_
  refine lv_icmp_ge (tgt := 60) hx hb dX5_init_38 (by decide) (fun _ => ?_) (fun c_43 => absurd c_43 (by decide))
  exact z_vret hx hb hr hlocks hH hS (it_end hT) (by decide) (by decide) dX5_init_60
