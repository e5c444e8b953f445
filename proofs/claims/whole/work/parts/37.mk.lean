set_option maxHeartbeats 4000000 in
set_option maxRecDepth 100000 in
theorem c5_init (l : Launch) (D : va_G) (cy : Nat → ClassId) (base : Nat) (w : zW) (x : Nat) (k_x : zK w x = 6) (hz : zI w 503 x = 0 ∧ zI w 504 x = 0 ∧ zI w 505 x = 0) : Met l yX5_init wsX5_init ({ frames := 2, cells := 6, slots := 27, locals := 40 }) (zPc D cy base (zH D cy base) [.ref x] w) (zQv base (zH D cy base) (fun (u0 : zW) => Rep u0 x mB0 ∧ cFr w u0)) 6 27 (fun q => base ≤ q) := by
  refine Met.ofW (cc := cX5_init) (maxL := 2) (ret := none) (by decide) rfl ?_
  intro p e s m args below meth c s₁ B9 hml hv
  obtain ⟨rfl, hA, hH⟩ := hv
  have hx := B9.exec
  have hb := B9.bytes
  have hr := B9.returns
  have hts := atoms_spec (ws := wsX5_init) B9.pre
  have hown : s.vm.findClass RX5 = some m.cls := findClass_of_methodNamed B9.named
  have hlocks := B9.notSynchronized
  have hin : meth.name = "<init>" := (name_of_methodNamed B9.named B9.method).1
  have hi4 : ∀ w ∈ wsX40, w ∈ wsX5_init := by decide +kernel
  have hi5 : ∀ w ∈ wsX50, w ∈ wsX5_init := by decide +kernel
  have hS : va_S (fun q : Nat => base ≤ q) s.heap s.heap [] := va_S.rf
  have hl := lv_entry ([.ref x]) (n := 2) (Nat.le_of_ble_eq_true rfl)
  rw [lg_entry_eq]
  generalize (lg_sl ([.ref x]) ++ List.replicate (2 - (lg_sl ([.ref x])).length) Slot.unset).toArray = ls at hl ⊢
  have hl : lv_has ls 2 [(0, .ref x)] := hl
  refine lv_aload_n hx hb dX5_init_0 rfl (lv_at hl 0 rfl) ?_
  refine W.objInit hx hb hown (hts (.methodLink RX5 1 objectInit) (by decide +kernel)) (hts (.instanceMethod objectInit) (by decide +kernel)) (hts (.code objectInit ⟨#[0xb1]⟩ 1 none) (by decide +kernel)) rfl (by rw [hml]; exact hl.1) rfl dX5_init_1 (Nat.le_of_ble_eq_true rfl) (Nat.le_of_ble_eq_true rfl) ?_
  refine W.eq (g2 := F0 m 4 ls []) rfl ?_
  refine lv_aload_n hx hb dX5_init_4 rfl (lv_at hl 0 rfl) ?_
  refine lv_bipush (v := 10) hx hb dX5_init_5 (by decide) ?_
  refine z_newq (k := 12) (t0 := 4) (N' := 10) hx hb hown (hts (.classLink RX5 9 RX2) (by decide +kernel)) hA.2.2.2.2.2.1.2.2.1 hA hH hS rfl (fun q => znew_a12 q 10) (by decide) (by decide) (Nat.le_of_ble_eq_true rfl) (Nat.le_of_ble_eq_true rfl) (Nat.le_of_ble_eq_true rfl) dX5_init_7 (fun A H hn_1 hH hS => ?_)
  have f_2 := ((zNew_old (k := 12) (n := 10) hn_1 (zk0 k_x (by decide))).2.1).trans k_x
  have f_3 := (zNew_new (w := w) (q := A) (k := 12) (n := 10)).1
  have f_4 := (zNew_new (w := w) (q := A) (k := 12) (n := 10)).2.2.2.1
  refine z_putF (C := RX5) (T := TX5) (N := 6) (ci := 5) (index := 11) (v := .ref A) (ty := .array (.object "ParoleCards$Person")) hx hb hts hi5 tyX5 tyX5_ok nmX5 hown hA hH hS (zk0 f_2 (by decide)) (zE_k6 f_2) rfl 0 (by decide) (hts (.fieldLink RX5 11 "ParoleCards" "people" "[LParoleCards$Person;") (by decide +kernel)) (fun _ h9 => h9) rfl hin rfl (by decide +kernel) rfl rfl (Nat.le_of_ble_eq_true rfl) (w' := zsP (zNew w A 12 10) 500 x (some A)) (zs_500 (w := (zNew w A 12 10)) f_2 _) (zsP_oth (zNew w A 12 10) 500 x _) (fun _ => rfl) dX5_init_10 (fun H locs hH hS => ?_)
  refine lv_aload_n hx hb dX5_init_13 rfl (lv_at hl 0 rfl) ?_
  refine lv_bipush (v := 8) hx hb dX5_init_14 (by decide) ?_
  refine z_newq (k := 11) (t0 := 3) (N' := 8) hx hb hown (hts (.classLink RX5 15 RX1) (by decide +kernel)) hA.2.2.2.2.2.1.2.1 hA hH hS rfl (fun q => znew_a11 q 8) (by decide) (by decide) (Nat.le_of_ble_eq_true rfl) (Nat.le_of_ble_eq_true rfl) (Nat.le_of_ble_eq_true rfl) dX5_init_16 (fun O H hn_5 hH hS => ?_)
  have f_6 := ((zNew_old (k := 11) (n := 8) hn_5 (zk0 f_2 (by decide))).2.1).trans f_2
  have f_7 := ((zNew_old (k := 11) (n := 8) hn_5 (zk0 f_3 (by decide))).2.1).trans f_3
  have f_8 := ((zNew_old (k := 11) (n := 8) hn_5 (zk0 f_3 (by decide))).2.2.2.2.1).trans f_4
  have f_9 := (zNew_new (w := (zsP (zNew w A 12 10) 500 x (some A))) (q := O) (k := 11) (n := 8)).1
  have f_10 := (zNew_new (w := (zsP (zNew w A 12 10) 500 x (some A))) (q := O) (k := 11) (n := 8)).2.2.2.1
  refine z_putF (C := RX5) (T := TX5) (N := 6) (ci := 5) (index := 17) (v := .ref O) (ty := .array (.object "ParoleCards$Order")) hx hb hts hi5 tyX5 tyX5_ok nmX5 hown hA hH hS (zk0 f_6 (by decide)) (zE_k6 f_6) rfl 1 (by decide) (hts (.fieldLink RX5 17 "ParoleCards" "orders" "[LParoleCards$Order;") (by decide +kernel)) (fun _ h9 => h9) rfl hin rfl (by decide +kernel) rfl rfl (Nat.le_of_ble_eq_true rfl) (w' := zsP (zNew (zsP (zNew w A 12 10) 500 x (some A)) O 11 8) 501 x (some O)) (zs_501 (w := (zNew (zsP (zNew w A 12 10) 500 x (some A)) O 11 8)) f_6 _) (zsP_oth (zNew (zsP (zNew w A 12 10) 500 x (some A)) O 11 8) 501 x _) (fun _ => rfl) dX5_init_19 (fun H locs hH hS => ?_)
  refine lv_aload_n hx hb dX5_init_22 rfl (lv_at hl 0 rfl) ?_
  refine lv_iconst (v := 3) hx hb dX5_init_23 (by decide) ?_
  refine z_newq (k := 13) (t0 := 5) (N' := 3) hx hb hown (hts (.classLink RX5 21 RX4) (by decide +kernel)) hA.2.2.2.2.2.1.2.2.2 hA hH hS rfl (fun q => znew_a13 q 3) (by decide) (by decide) (Nat.le_of_ble_eq_true rfl) (Nat.le_of_ble_eq_true rfl) (Nat.le_of_ble_eq_true rfl) dX5_init_24 (fun T H hn_11 hH hS => ?_)
  have f_12 := ((zNew_old (k := 13) (n := 3) hn_11 (zk0 f_6 (by decide))).2.1).trans f_6
  have f_13 := ((zNew_old (k := 13) (n := 3) hn_11 (zk0 f_7 (by decide))).2.1).trans f_7
  have f_14 := ((zNew_old (k := 13) (n := 3) hn_11 (zk0 f_7 (by decide))).2.2.2.2.1).trans f_8
  have f_15 := ((zNew_old (k := 13) (n := 3) hn_11 (zk0 f_9 (by decide))).2.1).trans f_9
  have f_16 := ((zNew_old (k := 13) (n := 3) hn_11 (zk0 f_9 (by decide))).2.2.2.2.1).trans f_10
  have f_17 := (zNew_new (w := (zsP (zNew (zsP (zNew w A 12 10) 500 x (some A)) O 11 8) 501 x (some O))) (q := T) (k := 13) (n := 3)).1
  have f_18 := (zNew_new (w := (zsP (zNew (zsP (zNew w A 12 10) 500 x (some A)) O 11 8) 501 x (some O))) (q := T) (k := 13) (n := 3)).2.2.2.1
  refine z_putF (C := RX5) (T := TX5) (N := 6) (ci := 5) (index := 23) (v := .ref T) (ty := .array (.object "ParoleCards$ToolKind")) hx hb hts hi5 tyX5 tyX5_ok nmX5 hown hA hH hS (zk0 f_12 (by decide)) (zE_k6 f_12) rfl 2 (by decide) (hts (.fieldLink RX5 23 "ParoleCards" "toolKinds" "[LParoleCards$ToolKind;") (by decide +kernel)) (fun _ h9 => h9) rfl hin rfl (by decide +kernel) rfl rfl (Nat.le_of_ble_eq_true rfl) (w' := zsP (zNew (zsP (zNew (zsP (zNew w A 12 10) 500 x (some A)) O 11 8) 501 x (some O)) T 13 3) 502 x (some T)) (zs_502 (w := (zNew (zsP (zNew (zsP (zNew w A 12 10) 500 x (some A)) O 11 8) 501 x (some O)) T 13 3)) f_12 _) (zsP_oth (zNew (zsP (zNew (zsP (zNew w A 12 10) 500 x (some A)) O 11 8) 501 x (some O)) T 13 3) 502 x _) (fun _ => rfl) dX5_init_27 (fun H locs hH hS => ?_)
  have hT := it_start k_x hz.1 hz.2.1 hz.2.2 hn_1 hn_5 hn_11
  obtain ⟨u0, hu⟩ : ∃ u0 : zW, u0 = (zsP (zNew (zsP (zNew (zsP (zNew w A 12 10) 500 x (some A)) O 11 8) 501 x (some O)) T 13 3) 502 x (some T)) := ⟨_, rfl⟩
  rw [← hu] at hH hT
  clear hu
  obtain ⟨⟨k_x, -, -, -, p500, p501, p502⟩, ⟨k_A, n_A, k_O, n_O, k_T, n_T⟩, -⟩ := id hT
  refine lv_iconst (v := 0) hx hb dX5_init_30 (by decide) ?_
  refine lv_istore_n (lv' := [(1, .int 0), (0, .ref x)]) hx hb dX5_init_31 rfl hl (by decide) rfl (fun ls hl => ?_)
  refine lv_iload_n hx hb dX5_init_32 rfl (lv_at hl 0 rfl) ?_
  refine lv_aload_n hx hb dX5_init_33 rfl (lv_at hl 1 rfl) ?_
  refine z_get (C := RX5) (T := TX5) (N := 6) (ci := 5) (index := 23) (v := .ref T) hx hb hts hi5 hown hA hH (zk0 k_x (by decide)) (zE_k6 k_x) rfl 2 (by decide) (hts (.fieldLink RX5 23 "ParoleCards" "toolKinds" "[LParoleCards$ToolKind;") (by decide +kernel)) (fun _ h9 => h9) (congrArg (fun z => some (va_rf z)) p502) dX5_init_34 ?_
  refine z_alen (v := 3) hx hb hA hH (zk0 k_T (by decide)) (zE_k13 k_T) 5 rfl (congrArg Int32.ofNat n_T) dX5_init_37 ?_
  refine lv_icmp_ge (tgt := 60) hx hb dX5_init_38 (by decide) (fun c_19 => absurd c_19 (by decide)) (fun _ => ?_)
  refine lv_aload_n hx hb dX5_init_41 rfl (lv_at hl 1 rfl) ?_
  refine z_get (C := RX5) (T := TX5) (N := 6) (ci := 5) (index := 23) (v := .ref T) hx hb hts hi5 hown hA hH (zk0 k_x (by decide)) (zE_k6 k_x) rfl 2 (by decide) (hts (.fieldLink RX5 23 "ParoleCards" "toolKinds" "[LParoleCards$ToolKind;") (by decide +kernel)) (fun _ h9 => h9) (congrArg (fun z => some (va_rf z)) p502) dX5_init_42 ?_
  refine lv_iload_n hx hb dX5_init_45 rfl (lv_at hl 0 rfl) ?_
  refine z_new (C := RX4) (T := TX4) (N := 2) (ci := 4) (k := 5) (index := 21) hx hb hts hi4 tyX4 tyX4_ok hown (hts (.classLink RX5 21 RX4) (by decide +kernel)) (hts (.instantiable RX4 2) (by decide +kernel)) (hts (.initialized RX4) (by decide +kernel)) hA hH hS rfl zdf_4 (fun q => znew_4 q) (Nat.le_of_ble_eq_true rfl) (Nat.le_of_ble_eq_true rfl) dX5_init_46 (fun q0 H hn_20 hH hS => ?_)
  have f_21 := ((zNew_old (k := 5) (n := 0) hn_20 (zk0 k_x (by decide))).2.1).trans k_x
  have f_22 := ((zNew_old (k := 5) (n := 0) hn_20 (zk0 k_x (by decide))).2.2.2.1 502).trans p502
  have f_23 := ((zNew_old (k := 5) (n := 0) hn_20 (zk0 k_T (by decide))).2.1).trans k_T
  have f_24 := ((zNew_old (k := 5) (n := 0) hn_20 (zk0 k_T (by decide))).2.2.2.2.1).trans n_T
  have f_25 := (zNew_new (w := u0) (q := q0) (k := 5) (n := 0)).1
  refine lv_dup hx hb dX5_init_49 rfl ?_
  refine z_callv (va_runIN (As := []) (rest := [.ref q0, .int 0, .ref T]) ⟨hx, hb, hml, hown, hts⟩ (c4_init l D cy base (zNew u0 q0 5 0) q0 f_25) ⟨va_cnB 0 hts gX5_init_X4_init_n27 rfl rfl rfl hA.2.2.2.2.2.2.2.2.2.2 (hts (.initialized RX4) (by decide +kernel)) (by decide +kernel) ⟨Nat.le_of_ble_eq_true rfl, Nat.le_of_ble_eq_true rfl⟩, rfl, (hts (.instanceMethod yX4_init) (by decide +kernel))⟩ (z_preS hA hS hH) rfl rfl hl.1 rfl (lv_room (Nat.le_of_ble_eq_true rfl)) dX5_init_50 ⟨Nat.le_of_ble_eq_true rfl, Nat.le_of_ble_eq_true rfl⟩) hS (fun u_k_26 H locs hw_k_26 hH hz_k_26 hS => ?_)
  have hu_k_26 := hw_k_26
  rw [hu_k_26] at hH
  refine z_aast (r := (RX4, TX4, 2)) (ci := 4) hx hb hA hH hS (zk0 f_23 (by decide)) (zEn (zE_k13 f_23) f_24) 5 rfl (zk0 f_25 (by decide)) (zE_k5 f_25) rfl 0 rfl (by omega) (by decide) (w' := zsQ (zNew u0 q0 5 0) T 0 (some q0)) (zEn (zst_13 (w := (zNew u0 q0 5 0)) f_23 _ _) f_24) (zsQ_oth (zNew u0 q0 5 0) T 0 _) (fun _ => rfl) dX5_init_53 (fun H locs hH hS => ?_)
  have hT := it_step (k := 0) hT hn_20
  obtain ⟨u1, hu⟩ : ∃ u1 : zW, u1 = (zsQ (zNew u0 q0 5 0) T 0 (some q0)) := ⟨_, rfl⟩
  rw [← hu] at hH hT
  clear hu
  obtain ⟨⟨k_x, -, -, -, p500, p501, p502⟩, ⟨k_A, n_A, k_O, n_O, k_T, n_T⟩, -⟩ := id hT
  refine lv_iinc (v := (0 + 1)) (lv' := [(1, .int (0 + 1)), (0, .ref x)]) hx hb dX5_init_54 hl (k := 0) rfl rfl (by decide) rfl (fun ls hl => ?_)
  rw [show ((0 + 1 : Int32)) = 1 from rfl] at hl
  refine lv_goto (tgt := 32) hx hb dX5_init_57 (by decide) ?_
  refine lv_iload_n hx hb dX5_init_32 rfl (lv_at hl 0 rfl) ?_
  refine lv_aload_n hx hb dX5_init_33 rfl (lv_at hl 1 rfl) ?_
  refine z_get (C := RX5) (T := TX5) (N := 6) (ci := 5) (index := 23) (v := .ref T) hx hb hts hi5 hown hA hH (zk0 k_x (by decide)) (zE_k6 k_x) rfl 2 (by decide) (hts (.fieldLink RX5 23 "ParoleCards" "toolKinds" "[LParoleCards$ToolKind;") (by decide +kernel)) (fun _ h9 => h9) (congrArg (fun z => some (va_rf z)) p502) dX5_init_34 ?_
  refine z_alen (v := 3) hx hb hA hH (zk0 k_T (by decide)) (zE_k13 k_T) 5 rfl (congrArg Int32.ofNat n_T) dX5_init_37 ?_
  refine lv_icmp_ge (tgt := 60) hx hb dX5_init_38 (by decide) (fun c_27 => absurd c_27 (by decide)) (fun _ => ?_)
  refine lv_aload_n hx hb dX5_init_41 rfl (lv_at hl 1 rfl) ?_
  refine z_get (C := RX5) (T := TX5) (N := 6) (ci := 5) (index := 23) (v := .ref T) hx hb hts hi5 hown hA hH (zk0 k_x (by decide)) (zE_k6 k_x) rfl 2 (by decide) (hts (.fieldLink RX5 23 "ParoleCards" "toolKinds" "[LParoleCards$ToolKind;") (by decide +kernel)) (fun _ h9 => h9) (congrArg (fun z => some (va_rf z)) p502) dX5_init_42 ?_
  refine lv_iload_n hx hb dX5_init_45 rfl (lv_at hl 0 rfl) ?_
  refine z_new (C := RX4) (T := TX4) (N := 2) (ci := 4) (k := 5) (index := 21) hx hb hts hi4 tyX4 tyX4_ok hown (hts (.classLink RX5 21 RX4) (by decide +kernel)) (hts (.instantiable RX4 2) (by decide +kernel)) (hts (.initialized RX4) (by decide +kernel)) hA hH hS rfl zdf_4 (fun q => znew_4 q) (Nat.le_of_ble_eq_true rfl) (Nat.le_of_ble_eq_true rfl) dX5_init_46 (fun q1 H hn_28 hH hS => ?_)
  have f_29 := ((zNew_old (k := 5) (n := 0) hn_28 (zk0 k_x (by decide))).2.1).trans k_x
  have f_30 := ((zNew_old (k := 5) (n := 0) hn_28 (zk0 k_x (by decide))).2.2.2.1 502).trans p502
  have f_31 := ((zNew_old (k := 5) (n := 0) hn_28 (zk0 k_T (by decide))).2.1).trans k_T
  have f_32 := ((zNew_old (k := 5) (n := 0) hn_28 (zk0 k_T (by decide))).2.2.2.2.1).trans n_T
  have f_33 := (zNew_new (w := u1) (q := q1) (k := 5) (n := 0)).1
  refine lv_dup hx hb dX5_init_49 rfl ?_
  refine z_callv (va_runIN (As := []) (rest := [.ref q1, .int 1, .ref T]) ⟨hx, hb, hml, hown, hts⟩ (c4_init l D cy base (zNew u1 q1 5 0) q1 f_33) ⟨va_cnB 0 hts gX5_init_X4_init_n27 rfl rfl rfl hA.2.2.2.2.2.2.2.2.2.2 (hts (.initialized RX4) (by decide +kernel)) (by decide +kernel) ⟨Nat.le_of_ble_eq_true rfl, Nat.le_of_ble_eq_true rfl⟩, rfl, (hts (.instanceMethod yX4_init) (by decide +kernel))⟩ (z_preS hA hS hH) rfl rfl hl.1 rfl (lv_room (Nat.le_of_ble_eq_true rfl)) dX5_init_50 ⟨Nat.le_of_ble_eq_true rfl, Nat.le_of_ble_eq_true rfl⟩) hS (fun u_k_34 H locs hw_k_34 hH hz_k_34 hS => ?_)
  have hu_k_34 := hw_k_34
  rw [hu_k_34] at hH
  refine z_aast (r := (RX4, TX4, 2)) (ci := 4) hx hb hA hH hS (zk0 f_31 (by decide)) (zEn (zE_k13 f_31) f_32) 5 rfl (zk0 f_33 (by decide)) (zE_k5 f_33) rfl 1 rfl (by omega) (by decide) (w' := zsQ (zNew u1 q1 5 0) T 1 (some q1)) (zEn (zst_13 (w := (zNew u1 q1 5 0)) f_31 _ _) f_32) (zsQ_oth (zNew u1 q1 5 0) T 1 _) (fun _ => rfl) dX5_init_53 (fun H locs hH hS => ?_)
  have hT := it_step (k := 1) hT hn_28
  obtain ⟨u2, hu⟩ : ∃ u2 : zW, u2 = (zsQ (zNew u1 q1 5 0) T 1 (some q1)) := ⟨_, rfl⟩
  rw [← hu] at hH hT
  clear hu
  obtain ⟨⟨k_x, -, -, -, p500, p501, p502⟩, ⟨k_A, n_A, k_O, n_O, k_T, n_T⟩, -⟩ := id hT
  refine lv_iinc (v := (1 + 1)) (lv' := [(1, .int (1 + 1)), (0, .ref x)]) hx hb dX5_init_54 hl (k := 0) rfl rfl (by decide) rfl (fun ls hl => ?_)
  rw [show ((1 + 1 : Int32)) = 2 from rfl] at hl
  refine lv_goto (tgt := 32) hx hb dX5_init_57 (by decide) ?_
  refine lv_iload_n hx hb dX5_init_32 rfl (lv_at hl 0 rfl) ?_
  refine lv_aload_n hx hb dX5_init_33 rfl (lv_at hl 1 rfl) ?_
  refine z_get (C := RX5) (T := TX5) (N := 6) (ci := 5) (index := 23) (v := .ref T) hx hb hts hi5 hown hA hH (zk0 k_x (by decide)) (zE_k6 k_x) rfl 2 (by decide) (hts (.fieldLink RX5 23 "ParoleCards" "toolKinds" "[LParoleCards$ToolKind;") (by decide +kernel)) (fun _ h9 => h9) (congrArg (fun z => some (va_rf z)) p502) dX5_init_34 ?_
  refine z_alen (v := 3) hx hb hA hH (zk0 k_T (by decide)) (zE_k13 k_T) 5 rfl (congrArg Int32.ofNat n_T) dX5_init_37 ?_
  refine lv_icmp_ge (tgt := 60) hx hb dX5_init_38 (by decide) (fun c_35 => absurd c_35 (by decide)) (fun _ => ?_)
  refine lv_aload_n hx hb dX5_init_41 rfl (lv_at hl 1 rfl) ?_
  refine z_get (C := RX5) (T := TX5) (N := 6) (ci := 5) (index := 23) (v := .ref T) hx hb hts hi5 hown hA hH (zk0 k_x (by decide)) (zE_k6 k_x) rfl 2 (by decide) (hts (.fieldLink RX5 23 "ParoleCards" "toolKinds" "[LParoleCards$ToolKind;") (by decide +kernel)) (fun _ h9 => h9) (congrArg (fun z => some (va_rf z)) p502) dX5_init_42 ?_
  refine lv_iload_n hx hb dX5_init_45 rfl (lv_at hl 0 rfl) ?_
  refine z_new (C := RX4) (T := TX4) (N := 2) (ci := 4) (k := 5) (index := 21) hx hb hts hi4 tyX4 tyX4_ok hown (hts (.classLink RX5 21 RX4) (by decide +kernel)) (hts (.instantiable RX4 2) (by decide +kernel)) (hts (.initialized RX4) (by decide +kernel)) hA hH hS rfl zdf_4 (fun q => znew_4 q) (Nat.le_of_ble_eq_true rfl) (Nat.le_of_ble_eq_true rfl) dX5_init_46 (fun q2 H hn_36 hH hS => ?_)
  have f_37 := ((zNew_old (k := 5) (n := 0) hn_36 (zk0 k_x (by decide))).2.1).trans k_x
  have f_38 := ((zNew_old (k := 5) (n := 0) hn_36 (zk0 k_x (by decide))).2.2.2.1 502).trans p502
  have f_39 := ((zNew_old (k := 5) (n := 0) hn_36 (zk0 k_T (by decide))).2.1).trans k_T
  have f_40 := ((zNew_old (k := 5) (n := 0) hn_36 (zk0 k_T (by decide))).2.2.2.2.1).trans n_T
  have f_41 := (zNew_new (w := u2) (q := q2) (k := 5) (n := 0)).1
  refine lv_dup hx hb dX5_init_49 rfl ?_
  refine z_callv (va_runIN (As := []) (rest := [.ref q2, .int 2, .ref T]) ⟨hx, hb, hml, hown, hts⟩ (c4_init l D cy base (zNew u2 q2 5 0) q2 f_41) ⟨va_cnB 0 hts gX5_init_X4_init_n27 rfl rfl rfl hA.2.2.2.2.2.2.2.2.2.2 (hts (.initialized RX4) (by decide +kernel)) (by decide +kernel) ⟨Nat.le_of_ble_eq_true rfl, Nat.le_of_ble_eq_true rfl⟩, rfl, (hts (.instanceMethod yX4_init) (by decide +kernel))⟩ (z_preS hA hS hH) rfl rfl hl.1 rfl (lv_room (Nat.le_of_ble_eq_true rfl)) dX5_init_50 ⟨Nat.le_of_ble_eq_true rfl, Nat.le_of_ble_eq_true rfl⟩) hS (fun u_k_42 H locs hw_k_42 hH hz_k_42 hS => ?_)
  have hu_k_42 := hw_k_42
  rw [hu_k_42] at hH
  refine z_aast (r := (RX4, TX4, 2)) (ci := 4) hx hb hA hH hS (zk0 f_39 (by decide)) (zEn (zE_k13 f_39) f_40) 5 rfl (zk0 f_41 (by decide)) (zE_k5 f_41) rfl 2 rfl (by omega) (by decide) (w' := zsQ (zNew u2 q2 5 0) T 2 (some q2)) (zEn (zst_13 (w := (zNew u2 q2 5 0)) f_39 _ _) f_40) (zsQ_oth (zNew u2 q2 5 0) T 2 _) (fun _ => rfl) dX5_init_53 (fun H locs hH hS => ?_)
  have hT := it_step (k := 2) hT hn_36
  obtain ⟨u3, hu⟩ : ∃ u3 : zW, u3 = (zsQ (zNew u2 q2 5 0) T 2 (some q2)) := ⟨_, rfl⟩
  rw [← hu] at hH hT
  clear hu
  obtain ⟨⟨k_x, -, -, -, p500, p501, p502⟩, ⟨k_A, n_A, k_O, n_O, k_T, n_T⟩, -⟩ := id hT
  refine lv_iinc (v := (2 + 1)) (lv' := [(1, .int (2 + 1)), (0, .ref x)]) hx hb dX5_init_54 hl (k := 0) rfl rfl (by decide) rfl (fun ls hl => ?_)
  rw [show ((2 + 1 : Int32)) = 3 from rfl] at hl
  refine lv_goto (tgt := 32) hx hb dX5_init_57 (by decide) ?_
  refine lv_iload_n hx hb dX5_init_32 rfl (lv_at hl 0 rfl) ?_
  refine lv_aload_n hx hb dX5_init_33 rfl (lv_at hl 1 rfl) ?_
  refine z_get (C := RX5) (T := TX5) (N := 6) (ci := 5) (index := 23) (v := .ref T) hx hb hts hi5 hown hA hH (zk0 k_x (by decide)) (zE_k6 k_x) rfl 2 (by decide) (hts (.fieldLink RX5 23 "ParoleCards" "toolKinds" "[LParoleCards$ToolKind;") (by decide +kernel)) (fun _ h9 => h9) (congrArg (fun z => some (va_rf z)) p502) dX5_init_34 ?_
  refine z_alen (v := 3) hx hb hA hH (zk0 k_T (by decide)) (zE_k13 k_T) 5 rfl (congrArg Int32.ofNat n_T) dX5_init_37 ?_
  refine lv_icmp_ge (tgt := 60) hx hb dX5_init_38 (by decide) (fun _ => ?_) (fun c_43 => absurd c_43 (by decide))
  exact z_vret hx hb hr hlocks hH hS (it_end hT) (by decide) (by decide) dX5_init_60
set_option maxHeartbeats 4000000 in
set_option maxRecDepth 100000 in
theorem c6_init (l : Launch) (D : va_G) (cy : Nat → ClassId) (base : Nat) (w : zW) (y : Nat) (k_y : zK w y = 7) (hz : ∀ g, zI w g y = 0) : Met l yX6_init wsX6_init ({ frames := 1, cells := 24, slots := 2215, locals := 20 }) (zPc D cy base (zH D cy base) [.ref y] w) (zQv base (zH D cy base) (fun (u0 : zW) => (∃ r : Nat → Nat, mRep u0 y r mB0) ∧ zOldX y w u0)) 24 2215 (fun q => base ≤ q) := by
  refine Met.ofW (cc := cX6_init) (maxL := 1) (ret := none) (by decide) rfl ?_
  intro p e s m args below meth c s₁ B9 hml hv
  obtain ⟨rfl, hA, hH⟩ := hv
  have hx := B9.exec
  have hb := B9.bytes
  have hr := B9.returns
  have hts := atoms_spec (ws := wsX6_init) B9.pre
  have hown : s.vm.findClass RX6 = some m.cls := findClass_of_methodNamed B9.named
  have hlocks := B9.notSynchronized
  have hin : meth.name = "<init>" := (name_of_methodNamed B9.named B9.method).1
  have hi6 : ∀ w ∈ wsX60, w ∈ wsX6_init := by decide +kernel
  have hS : va_S (fun q : Nat => base ≤ q) s.heap s.heap [] := va_S.rf
  have hl := lv_entry ([.ref y]) (n := 1) (Nat.le_of_ble_eq_true rfl)
  rw [lg_entry_eq]
  generalize (lg_sl ([.ref y]) ++ List.replicate (1 - (lg_sl ([.ref y])).length) Slot.unset).toArray = ls at hl ⊢
  have hl : lv_has ls 1 [(0, .ref y)] := hl
  have hT := mIn_start k_y hz
  refine lv_aload_n hx hb dX6_init_0 rfl (lv_at hl 0 rfl) ?_
  refine W.objInit hx hb hown (hts (.methodLink RX6 1 objectInit) (by decide +kernel)) (hts (.instanceMethod objectInit) (by decide +kernel)) (hts (.code objectInit ⟨#[0xb1]⟩ 1 none) (by decide +kernel)) rfl (by rw [hml]; exact hl.1) rfl dX6_init_1 (Nat.le_of_ble_eq_true rfl) (Nat.le_of_ble_eq_true rfl) ?_
  refine W.eq (g2 := F0 m 4 ls []) rfl ?_
  refine lv_aload_n hx hb dX6_init_4 rfl (lv_at hl 0 rfl) ?_
  refine lv_bipush (v := 10) hx hb dX6_init_5 (by decide) ?_
  refine z_newa (atype := .boolean) (ty := .boolean) (k := 9) (t0 := 1) (N' := 10) (a0 := (10, .inl (fun _ => 0))) hx hb (hts (.arrayClass .boolean) (by decide +kernel)) rfl hA hH hS rfl rfl rfl (fun q => znew_a9 q 10) (by decide) (by decide) (Nat.le_of_ble_eq_true rfl) (Nat.le_of_ble_eq_true rfl) (Nat.le_of_ble_eq_true rfl) dX6_init_7 (fun q2 H hn_1 hH hS => ?_)
  have f_2 := ((zNew_old (k := 9) (n := 10) hn_1 (zk0 k_y (by decide))).2.1).trans k_y
  have f_3 := (zNew_new (w := w) (q := q2) (k := 9) (n := 10)).1
  have f_4 := (zNew_new (w := w) (q := q2) (k := 9) (n := 10)).2.2.2.1
  refine z_putF (C := RX6) (T := TX6) (N := 28) (ci := 6) (index := 7) (v := .ref q2) (ty := .array .boolean) hx hb hts hi6 tyX6 tyX6_ok nmX6 hown hA hH hS (zk0 f_2 (by decide)) (zE_k7 f_2) rfl 2 (by decide) (hts (.fieldLink RX6 7 "ParoleCardsModel" "isOut" "[Z") (by decide +kernel)) (fun _ h9 => h9) rfl hin rfl (by decide +kernel) rfl rfl (Nat.le_of_ble_eq_true rfl) (w' := zsP (zNew w q2 9 10) 602 y (some q2)) (zs_602 (w := (zNew w q2 9 10)) f_2 _) (zsP_oth (zNew w q2 9 10) 602 y _) (fun _ => rfl) dX6_init_9 (fun H locs hH hS => ?_)
  have hT := mIn_step (n := 2) (kd := 9) (len := 10) hT hn_1 (by decide) (by decide)
  obtain ⟨u2, hu⟩ : ∃ u2 : zW, u2 = (zsP (zNew w q2 9 10) 602 y (some q2)) := ⟨_, rfl⟩
  rw [← hu] at hH
  have hT : mIn w u2 y 3 _ := hu.symm ▸ hT
  clear hu
  have k_y := hT.1
  refine lv_aload_n hx hb dX6_init_12 rfl (lv_at hl 0 rfl) ?_
  refine lv_bipush (v := 10) hx hb dX6_init_13 (by decide) ?_
  refine z_newa (atype := .int) (ty := .int) (k := 8) (t0 := 0) (N' := 10) (a0 := (10, .inl (fun _ => 0))) hx hb (hts (.arrayClass .int) (by decide +kernel)) rfl hA hH hS rfl rfl rfl (fun q => znew_a8 q 10) (by decide) (by decide) (Nat.le_of_ble_eq_true rfl) (Nat.le_of_ble_eq_true rfl) (Nat.le_of_ble_eq_true rfl) dX6_init_15 (fun q3 H hn_5 hH hS => ?_)
  have f_6 := ((zNew_old (k := 8) (n := 10) hn_5 (zk0 k_y (by decide))).2.1).trans k_y
  have f_7 := (zNew_new (w := u2) (q := q3) (k := 8) (n := 10)).1
  have f_8 := (zNew_new (w := u2) (q := q3) (k := 8) (n := 10)).2.2.2.1
  refine z_putF (C := RX6) (T := TX6) (N := 28) (ci := 6) (index := 13) (v := .ref q3) (ty := .array .int) hx hb hts hi6 tyX6 tyX6_ok nmX6 hown hA hH hS (zk0 f_6 (by decide)) (zE_k7 f_6) rfl 3 (by decide) (hts (.fieldLink RX6 13 "ParoleCardsModel" "since" "[I") (by decide +kernel)) (fun _ h9 => h9) rfl hin rfl (by decide +kernel) rfl rfl (Nat.le_of_ble_eq_true rfl) (w' := zsP (zNew u2 q3 8 10) 603 y (some q3)) (zs_603 (w := (zNew u2 q3 8 10)) f_6 _) (zsP_oth (zNew u2 q3 8 10) 603 y _) (fun _ => rfl) dX6_init_17 (fun H locs hH hS => ?_)
  have hT := mIn_step (n := 3) (kd := 8) (len := 10) hT hn_5 (by decide) (by decide)
  obtain ⟨u3, hu⟩ : ∃ u3 : zW, u3 = (zsP (zNew u2 q3 8 10) 603 y (some q3)) := ⟨_, rfl⟩
  rw [← hu] at hH
  have hT : mIn w u3 y 4 _ := hu.symm ▸ hT
  clear hu
  have k_y := hT.1
  refine lv_aload_n hx hb dX6_init_20 rfl (lv_at hl 0 rfl) ?_
  refine lv_bipush (v := 10) hx hb dX6_init_21 (by decide) ?_
  refine z_newa (atype := .int) (ty := .int) (k := 8) (t0 := 0) (N' := 10) (a0 := (10, .inl (fun _ => 0))) hx hb (hts (.arrayClass .int) (by decide +kernel)) rfl hA hH hS rfl rfl rfl (fun q => znew_a8 q 10) (by decide) (by decide) (Nat.le_of_ble_eq_true rfl) (Nat.le_of_ble_eq_true rfl) (Nat.le_of_ble_eq_true rfl) dX6_init_23 (fun q4 H hn_9 hH hS => ?_)
  have f_10 := ((zNew_old (k := 8) (n := 10) hn_9 (zk0 k_y (by decide))).2.1).trans k_y
  have f_11 := (zNew_new (w := u3) (q := q4) (k := 8) (n := 10)).1
  have f_12 := (zNew_new (w := u3) (q := q4) (k := 8) (n := 10)).2.2.2.1
  refine z_putF (C := RX6) (T := TX6) (N := 28) (ci := 6) (index := 17) (v := .ref q4) (ty := .array .int) hx hb hts hi6 tyX6 tyX6_ok nmX6 hown hA hH hS (zk0 f_10 (by decide)) (zE_k7 f_10) rfl 4 (by decide) (hts (.fieldLink RX6 17 "ParoleCardsModel" "term" "[I") (by decide +kernel)) (fun _ h9 => h9) rfl hin rfl (by decide +kernel) rfl rfl (Nat.le_of_ble_eq_true rfl) (w' := zsP (zNew u3 q4 8 10) 604 y (some q4)) (zs_604 (w := (zNew u3 q4 8 10)) f_10 _) (zsP_oth (zNew u3 q4 8 10) 604 y _) (fun _ => rfl) dX6_init_25 (fun H locs hH hS => ?_)
  have hT := mIn_step (n := 4) (kd := 8) (len := 10) hT hn_9 (by decide) (by decide)
  obtain ⟨u4, hu⟩ : ∃ u4 : zW, u4 = (zsP (zNew u3 q4 8 10) 604 y (some q4)) := ⟨_, rfl⟩
  rw [← hu] at hH
  have hT : mIn w u4 y 5 _ := hu.symm ▸ hT
  clear hu
  have k_y := hT.1
  refine lv_aload_n hx hb dX6_init_28 rfl (lv_at hl 0 rfl) ?_
  refine lv_bipush (v := 10) hx hb dX6_init_29 (by decide) ?_
  refine z_newa (atype := .int) (ty := .int) (k := 8) (t0 := 0) (N' := 10) (a0 := (10, .inl (fun _ => 0))) hx hb (hts (.arrayClass .int) (by decide +kernel)) rfl hA hH hS rfl rfl rfl (fun q => znew_a8 q 10) (by decide) (by decide) (Nat.le_of_ble_eq_true rfl) (Nat.le_of_ble_eq_true rfl) (Nat.le_of_ble_eq_true rfl) dX6_init_31 (fun q5 H hn_13 hH hS => ?_)
  have f_14 := ((zNew_old (k := 8) (n := 10) hn_13 (zk0 k_y (by decide))).2.1).trans k_y
  have f_15 := (zNew_new (w := u4) (q := q5) (k := 8) (n := 10)).1
  have f_16 := (zNew_new (w := u4) (q := q5) (k := 8) (n := 10)).2.2.2.1
  refine z_putF (C := RX6) (T := TX6) (N := 28) (ci := 6) (index := 20) (v := .ref q5) (ty := .array .int) hx hb hts hi6 tyX6 tyX6_ok nmX6 hown hA hH hS (zk0 f_14 (by decide)) (zE_k7 f_14) rfl 5 (by decide) (hts (.fieldLink RX6 20 "ParoleCardsModel" "skills" "[I") (by decide +kernel)) (fun _ h9 => h9) rfl hin rfl (by decide +kernel) rfl rfl (Nat.le_of_ble_eq_true rfl) (w' := zsP (zNew u4 q5 8 10) 605 y (some q5)) (zs_605 (w := (zNew u4 q5 8 10)) f_14 _) (zsP_oth (zNew u4 q5 8 10) 605 y _) (fun _ => rfl) dX6_init_33 (fun H locs hH hS => ?_)
  have hT := mIn_step (n := 5) (kd := 8) (len := 10) hT hn_13 (by decide) (by decide)
  obtain ⟨u5, hu⟩ : ∃ u5 : zW, u5 = (zsP (zNew u4 q5 8 10) 605 y (some q5)) := ⟨_, rfl⟩
  rw [← hu] at hH
  have hT : mIn w u5 y 6 _ := hu.symm ▸ hT
  clear hu
  have k_y := hT.1
  refine lv_aload_n hx hb dX6_init_36 rfl (lv_at hl 0 rfl) ?_
  refine lv_bipush (v := 10) hx hb dX6_init_37 (by decide) ?_
  refine z_newa (atype := .int) (ty := .int) (k := 8) (t0 := 0) (N' := 10) (a0 := (10, .inl (fun _ => 0))) hx hb (hts (.arrayClass .int) (by decide +kernel)) rfl hA hH hS rfl rfl rfl (fun q => znew_a8 q 10) (by decide) (by decide) (Nat.le_of_ble_eq_true rfl) (Nat.le_of_ble_eq_true rfl) (Nat.le_of_ble_eq_true rfl) dX6_init_39 (fun q6 H hn_17 hH hS => ?_)
  have f_18 := ((zNew_old (k := 8) (n := 10) hn_17 (zk0 k_y (by decide))).2.1).trans k_y
  have f_19 := (zNew_new (w := u5) (q := q6) (k := 8) (n := 10)).1
  have f_20 := (zNew_new (w := u5) (q := q6) (k := 8) (n := 10)).2.2.2.1
  refine z_putF (C := RX6) (T := TX6) (N := 28) (ci := 6) (index := 23) (v := .ref q6) (ty := .array .int) hx hb hts hi6 tyX6 tyX6_ok nmX6 hown hA hH hS (zk0 f_18 (by decide)) (zE_k7 f_18) rfl 6 (by decide) (hts (.fieldLink RX6 23 "ParoleCardsModel" "regime" "[I") (by decide +kernel)) (fun _ h9 => h9) rfl hin rfl (by decide +kernel) rfl rfl (Nat.le_of_ble_eq_true rfl) (w' := zsP (zNew u5 q6 8 10) 606 y (some q6)) (zs_606 (w := (zNew u5 q6 8 10)) f_18 _) (zsP_oth (zNew u5 q6 8 10) 606 y _) (fun _ => rfl) dX6_init_41 (fun H locs hH hS => ?_)
  have hT := mIn_step (n := 6) (kd := 8) (len := 10) hT hn_17 (by decide) (by decide)
  obtain ⟨u6, hu⟩ : ∃ u6 : zW, u6 = (zsP (zNew u5 q6 8 10) 606 y (some q6)) := ⟨_, rfl⟩
  rw [← hu] at hH
  have hT : mIn w u6 y 7 _ := hu.symm ▸ hT
  clear hu
  have k_y := hT.1
  refine lv_aload_n hx hb dX6_init_44 rfl (lv_at hl 0 rfl) ?_
  refine lv_bipush (v := 10) hx hb dX6_init_45 (by decide) ?_
  refine z_newa (atype := .int) (ty := .int) (k := 8) (t0 := 0) (N' := 10) (a0 := (10, .inl (fun _ => 0))) hx hb (hts (.arrayClass .int) (by decide +kernel)) rfl hA hH hS rfl rfl rfl (fun q => znew_a8 q 10) (by decide) (by decide) (Nat.le_of_ble_eq_true rfl) (Nat.le_of_ble_eq_true rfl) (Nat.le_of_ble_eq_true rfl) dX6_init_47 (fun q7 H hn_21 hH hS => ?_)
  have f_22 := ((zNew_old (k := 8) (n := 10) hn_21 (zk0 k_y (by decide))).2.1).trans k_y
  have f_23 := (zNew_new (w := u6) (q := q7) (k := 8) (n := 10)).1
  have f_24 := (zNew_new (w := u6) (q := q7) (k := 8) (n := 10)).2.2.2.1
  refine z_putF (C := RX6) (T := TX6) (N := 28) (ci := 6) (index := 26) (v := .ref q7) (ty := .array .int) hx hb hts hi6 tyX6 tyX6_ok nmX6 hown hA hH hS (zk0 f_22 (by decide)) (zE_k7 f_22) rfl 7 (by decide) (hts (.fieldLink RX6 26 "ParoleCardsModel" "worked" "[I") (by decide +kernel)) (fun _ h9 => h9) rfl hin rfl (by decide +kernel) rfl rfl (Nat.le_of_ble_eq_true rfl) (w' := zsP (zNew u6 q7 8 10) 607 y (some q7)) (zs_607 (w := (zNew u6 q7 8 10)) f_22 _) (zsP_oth (zNew u6 q7 8 10) 607 y _) (fun _ => rfl) dX6_init_49 (fun H locs hH hS => ?_)
  have hT := mIn_step (n := 7) (kd := 8) (len := 10) hT hn_21 (by decide) (by decide)
  obtain ⟨u7, hu⟩ : ∃ u7 : zW, u7 = (zsP (zNew u6 q7 8 10) 607 y (some q7)) := ⟨_, rfl⟩
  rw [← hu] at hH
  have hT : mIn w u7 y 8 _ := hu.symm ▸ hT
  clear hu
  have k_y := hT.1
  refine lv_aload_n hx hb dX6_init_52 rfl (lv_at hl 0 rfl) ?_
  refine lv_bipush (v := 10) hx hb dX6_init_53 (by decide) ?_
  refine z_newa (atype := .int) (ty := .int) (k := 8) (t0 := 0) (N' := 10) (a0 := (10, .inl (fun _ => 0))) hx hb (hts (.arrayClass .int) (by decide +kernel)) rfl hA hH hS rfl rfl rfl (fun q => znew_a8 q 10) (by decide) (by decide) (Nat.le_of_ble_eq_true rfl) (Nat.le_of_ble_eq_true rfl) (Nat.le_of_ble_eq_true rfl) dX6_init_55 (fun q8 H hn_25 hH hS => ?_)
  have f_26 := ((zNew_old (k := 8) (n := 10) hn_25 (zk0 k_y (by decide))).2.1).trans k_y
  have f_27 := (zNew_new (w := u7) (q := q8) (k := 8) (n := 10)).1
  have f_28 := (zNew_new (w := u7) (q := q8) (k := 8) (n := 10)).2.2.2.1
  refine z_putF (C := RX6) (T := TX6) (N := 28) (ci := 6) (index := 29) (v := .ref q8) (ty := .array .int) hx hb hts hi6 tyX6 tyX6_ok nmX6 hown hA hH hS (zk0 f_26 (by decide)) (zE_k7 f_26) rfl 8 (by decide) (hts (.fieldLink RX6 29 "ParoleCardsModel" "gained" "[I") (by decide +kernel)) (fun _ h9 => h9) rfl hin rfl (by decide +kernel) rfl rfl (Nat.le_of_ble_eq_true rfl) (w' := zsP (zNew u7 q8 8 10) 608 y (some q8)) (zs_608 (w := (zNew u7 q8 8 10)) f_26 _) (zsP_oth (zNew u7 q8 8 10) 608 y _) (fun _ => rfl) dX6_init_57 (fun H locs hH hS => ?_)
  have hT := mIn_step (n := 8) (kd := 8) (len := 10) hT hn_25 (by decide) (by decide)
  obtain ⟨u8, hu⟩ : ∃ u8 : zW, u8 = (zsP (zNew u7 q8 8 10) 608 y (some q8)) := ⟨_, rfl⟩
  rw [← hu] at hH
  have hT : mIn w u8 y 9 _ := hu.symm ▸ hT
  clear hu
  have k_y := hT.1
  refine lv_aload_n hx hb dX6_init_60 rfl (lv_at hl 0 rfl) ?_
  refine lv_bipush (v := 10) hx hb dX6_init_61 (by decide) ?_
  refine z_newa (atype := .int) (ty := .int) (k := 8) (t0 := 0) (N' := 10) (a0 := (10, .inl (fun _ => 0))) hx hb (hts (.arrayClass .int) (by decide +kernel)) rfl hA hH hS rfl rfl rfl (fun q => znew_a8 q 10) (by decide) (by decide) (Nat.le_of_ble_eq_true rfl) (Nat.le_of_ble_eq_true rfl) (Nat.le_of_ble_eq_true rfl) dX6_init_63 (fun q9 H hn_29 hH hS => ?_)
  have f_30 := ((zNew_old (k := 8) (n := 10) hn_29 (zk0 k_y (by decide))).2.1).trans k_y
  have f_31 := (zNew_new (w := u8) (q := q9) (k := 8) (n := 10)).1
  have f_32 := (zNew_new (w := u8) (q := q9) (k := 8) (n := 10)).2.2.2.1
  refine z_putF (C := RX6) (T := TX6) (N := 28) (ci := 6) (index := 32) (v := .ref q9) (ty := .array .int) hx hb hts hi6 tyX6 tyX6_ok nmX6 hown hA hH hS (zk0 f_30 (by decide)) (zE_k7 f_30) rfl 9 (by decide) (hts (.fieldLink RX6 32 "ParoleCardsModel" "papers" "[I") (by decide +kernel)) (fun _ h9 => h9) rfl hin rfl (by decide +kernel) rfl rfl (Nat.le_of_ble_eq_true rfl) (w' := zsP (zNew u8 q9 8 10) 609 y (some q9)) (zs_609 (w := (zNew u8 q9 8 10)) f_30 _) (zsP_oth (zNew u8 q9 8 10) 609 y _) (fun _ => rfl) dX6_init_65 (fun H locs hH hS => ?_)
  have hT := mIn_step (n := 9) (kd := 8) (len := 10) hT hn_29 (by decide) (by decide)
  obtain ⟨u9, hu⟩ : ∃ u9 : zW, u9 = (zsP (zNew u8 q9 8 10) 609 y (some q9)) := ⟨_, rfl⟩
  rw [← hu] at hH
  have hT : mIn w u9 y 10 _ := hu.symm ▸ hT
  clear hu
  have k_y := hT.1
  refine lv_aload_n hx hb dX6_init_68 rfl (lv_at hl 0 rfl) ?_
  refine lv_bipush (v := 10) hx hb dX6_init_69 (by decide) ?_
  refine z_newa (atype := .int) (ty := .int) (k := 8) (t0 := 0) (N' := 10) (a0 := (10, .inl (fun _ => 0))) hx hb (hts (.arrayClass .int) (by decide +kernel)) rfl hA hH hS rfl rfl rfl (fun q => znew_a8 q 10) (by decide) (by decide) (Nat.le_of_ble_eq_true rfl) (Nat.le_of_ble_eq_true rfl) (Nat.le_of_ble_eq_true rfl) dX6_init_71 (fun q10 H hn_33 hH hS => ?_)
  have f_34 := ((zNew_old (k := 8) (n := 10) hn_33 (zk0 k_y (by decide))).2.1).trans k_y
  have f_35 := (zNew_new (w := u9) (q := q10) (k := 8) (n := 10)).1
  have f_36 := (zNew_new (w := u9) (q := q10) (k := 8) (n := 10)).2.2.2.1
  refine z_putF (C := RX6) (T := TX6) (N := 28) (ci := 6) (index := 35) (v := .ref q10) (ty := .array .int) hx hb hts hi6 tyX6 tyX6_ok nmX6 hown hA hH hS (zk0 f_34 (by decide)) (zE_k7 f_34) rfl 10 (by decide) (hts (.fieldLink RX6 35 "ParoleCardsModel" "offences" "[I") (by decide +kernel)) (fun _ h9 => h9) rfl hin rfl (by decide +kernel) rfl rfl (Nat.le_of_ble_eq_true rfl) (w' := zsP (zNew u9 q10 8 10) 610 y (some q10)) (zs_610 (w := (zNew u9 q10 8 10)) f_34 _) (zsP_oth (zNew u9 q10 8 10) 610 y _) (fun _ => rfl) dX6_init_73 (fun H locs hH hS => ?_)
  have hT := mIn_step (n := 10) (kd := 8) (len := 10) hT hn_33 (by decide) (by decide)
  obtain ⟨u10, hu⟩ : ∃ u10 : zW, u10 = (zsP (zNew u9 q10 8 10) 610 y (some q10)) := ⟨_, rfl⟩
  rw [← hu] at hH
  have hT : mIn w u10 y 11 _ := hu.symm ▸ hT
  clear hu
  have k_y := hT.1
  refine lv_aload_n hx hb dX6_init_76 rfl (lv_at hl 0 rfl) ?_
  refine lv_bipush (v := 10) hx hb dX6_init_77 (by decide) ?_
  refine z_newa (atype := .int) (ty := .int) (k := 8) (t0 := 0) (N' := 10) (a0 := (10, .inl (fun _ => 0))) hx hb (hts (.arrayClass .int) (by decide +kernel)) rfl hA hH hS rfl rfl rfl (fun q => znew_a8 q 10) (by decide) (by decide) (Nat.le_of_ble_eq_true rfl) (Nat.le_of_ble_eq_true rfl) (Nat.le_of_ble_eq_true rfl) dX6_init_79 (fun q11 H hn_37 hH hS => ?_)
  have f_38 := ((zNew_old (k := 8) (n := 10) hn_37 (zk0 k_y (by decide))).2.1).trans k_y
  have f_39 := (zNew_new (w := u10) (q := q11) (k := 8) (n := 10)).1
  have f_40 := (zNew_new (w := u10) (q := q11) (k := 8) (n := 10)).2.2.2.1
  refine z_putF (C := RX6) (T := TX6) (N := 28) (ci := 6) (index := 38) (v := .ref q11) (ty := .array .int) hx hb hts hi6 tyX6 tyX6_ok nmX6 hown hA hH hS (zk0 f_38 (by decide)) (zE_k7 f_38) rfl 11 (by decide) (hts (.fieldLink RX6 38 "ParoleCardsModel" "on" "[I") (by decide +kernel)) (fun _ h9 => h9) rfl hin rfl (by decide +kernel) rfl rfl (Nat.le_of_ble_eq_true rfl) (w' := zsP (zNew u10 q11 8 10) 611 y (some q11)) (zs_611 (w := (zNew u10 q11 8 10)) f_38 _) (zsP_oth (zNew u10 q11 8 10) 611 y _) (fun _ => rfl) dX6_init_81 (fun H locs hH hS => ?_)
  have hT := mIn_step (n := 11) (kd := 8) (len := 10) hT hn_37 (by decide) (by decide)
  obtain ⟨u11, hu⟩ : ∃ u11 : zW, u11 = (zsP (zNew u10 q11 8 10) 611 y (some q11)) := ⟨_, rfl⟩
  rw [← hu] at hH
  have hT : mIn w u11 y 12 _ := hu.symm ▸ hT
  clear hu
  have k_y := hT.1
  refine lv_aload_n hx hb dX6_init_84 rfl (lv_at hl 0 rfl) ?_
  refine lv_bipush (v := 10) hx hb dX6_init_85 (by decide) ?_
  refine z_newa (atype := .int) (ty := .int) (k := 8) (t0 := 0) (N' := 10) (a0 := (10, .inl (fun _ => 0))) hx hb (hts (.arrayClass .int) (by decide +kernel)) rfl hA hH hS rfl rfl rfl (fun q => znew_a8 q 10) (by decide) (by decide) (Nat.le_of_ble_eq_true rfl) (Nat.le_of_ble_eq_true rfl) (Nat.le_of_ble_eq_true rfl) dX6_init_87 (fun q12 H hn_41 hH hS => ?_)
  have f_42 := ((zNew_old (k := 8) (n := 10) hn_41 (zk0 k_y (by decide))).2.1).trans k_y
  have f_43 := (zNew_new (w := u11) (q := q12) (k := 8) (n := 10)).1
  have f_44 := (zNew_new (w := u11) (q := q12) (k := 8) (n := 10)).2.2.2.1
  refine z_putF (C := RX6) (T := TX6) (N := 28) (ci := 6) (index := 41) (v := .ref q12) (ty := .array .int) hx hb hts hi6 tyX6 tyX6_ok nmX6 hown hA hH hS (zk0 f_42 (by decide)) (zE_k7 f_42) rfl 12 (by decide) (hts (.fieldLink RX6 41 "ParoleCardsModel" "released" "[I") (by decide +kernel)) (fun _ h9 => h9) rfl hin rfl (by decide +kernel) rfl rfl (Nat.le_of_ble_eq_true rfl) (w' := zsP (zNew u11 q12 8 10) 612 y (some q12)) (zs_612 (w := (zNew u11 q12 8 10)) f_42 _) (zsP_oth (zNew u11 q12 8 10) 612 y _) (fun _ => rfl) dX6_init_89 (fun H locs hH hS => ?_)
  have hT := mIn_step (n := 12) (kd := 8) (len := 10) hT hn_41 (by decide) (by decide)
  obtain ⟨u12, hu⟩ : ∃ u12 : zW, u12 = (zsP (zNew u11 q12 8 10) 612 y (some q12)) := ⟨_, rfl⟩
  rw [← hu] at hH
  have hT : mIn w u12 y 13 _ := hu.symm ▸ hT
  clear hu
  have k_y := hT.1
  refine lv_aload_n hx hb dX6_init_92 rfl (lv_at hl 0 rfl) ?_
  refine lv_bipush (v := 10) hx hb dX6_init_93 (by decide) ?_
  refine z_newa (atype := .int) (ty := .int) (k := 8) (t0 := 0) (N' := 10) (a0 := (10, .inl (fun _ => 0))) hx hb (hts (.arrayClass .int) (by decide +kernel)) rfl hA hH hS rfl rfl rfl (fun q => znew_a8 q 10) (by decide) (by decide) (Nat.le_of_ble_eq_true rfl) (Nat.le_of_ble_eq_true rfl) (Nat.le_of_ble_eq_true rfl) dX6_init_95 (fun q13 H hn_45 hH hS => ?_)
  have f_46 := ((zNew_old (k := 8) (n := 10) hn_45 (zk0 k_y (by decide))).2.1).trans k_y
  have f_47 := (zNew_new (w := u12) (q := q13) (k := 8) (n := 10)).1
  have f_48 := (zNew_new (w := u12) (q := q13) (k := 8) (n := 10)).2.2.2.1
  refine z_putF (C := RX6) (T := TX6) (N := 28) (ci := 6) (index := 44) (v := .ref q13) (ty := .array .int) hx hb hts hi6 tyX6 tyX6_ok nmX6 hown hA hH hS (zk0 f_46 (by decide)) (zE_k7 f_46) rfl 13 (by decide) (hts (.fieldLink RX6 44 "ParoleCardsModel" "paid" "[I") (by decide +kernel)) (fun _ h9 => h9) rfl hin rfl (by decide +kernel) rfl rfl (Nat.le_of_ble_eq_true rfl) (w' := zsP (zNew u12 q13 8 10) 613 y (some q13)) (zs_613 (w := (zNew u12 q13 8 10)) f_46 _) (zsP_oth (zNew u12 q13 8 10) 613 y _) (fun _ => rfl) dX6_init_97 (fun H locs hH hS => ?_)
  have hT := mIn_step (n := 13) (kd := 8) (len := 10) hT hn_45 (by decide) (by decide)
  obtain ⟨u13, hu⟩ : ∃ u13 : zW, u13 = (zsP (zNew u12 q13 8 10) 613 y (some q13)) := ⟨_, rfl⟩
  rw [← hu] at hH
  have hT : mIn w u13 y 14 _ := hu.symm ▸ hT
  clear hu
  have k_y := hT.1
  refine lv_aload_n hx hb dX6_init_100 rfl (lv_at hl 0 rfl) ?_
  refine lv_bipush (v := 40) hx hb dX6_init_101 (by decide) ?_
  refine z_newa (atype := .int) (ty := .int) (k := 8) (t0 := 0) (N' := 40) (a0 := (40, .inl (fun _ => 0))) hx hb (hts (.arrayClass .int) (by decide +kernel)) rfl hA hH hS rfl rfl rfl (fun q => znew_a8 q 40) (by decide) (by decide) (Nat.le_of_ble_eq_true rfl) (Nat.le_of_ble_eq_true rfl) (Nat.le_of_ble_eq_true rfl) dX6_init_103 (fun q14 H hn_49 hH hS => ?_)
  have f_50 := ((zNew_old (k := 8) (n := 40) hn_49 (zk0 k_y (by decide))).2.1).trans k_y
  have f_51 := (zNew_new (w := u13) (q := q14) (k := 8) (n := 40)).1
  have f_52 := (zNew_new (w := u13) (q := q14) (k := 8) (n := 40)).2.2.2.1
  refine z_putF (C := RX6) (T := TX6) (N := 28) (ci := 6) (index := 47) (v := .ref q14) (ty := .array .int) hx hb hts hi6 tyX6 tyX6_ok nmX6 hown hA hH hS (zk0 f_50 (by decide)) (zE_k7 f_50) rfl 14 (by decide) (hts (.fieldLink RX6 47 "ParoleCardsModel" "account" "[I") (by decide +kernel)) (fun _ h9 => h9) rfl hin rfl (by decide +kernel) rfl rfl (Nat.le_of_ble_eq_true rfl) (w' := zsP (zNew u13 q14 8 40) 614 y (some q14)) (zs_614 (w := (zNew u13 q14 8 40)) f_50 _) (zsP_oth (zNew u13 q14 8 40) 614 y _) (fun _ => rfl) dX6_init_105 (fun H locs hH hS => ?_)
  have hT := mIn_step (n := 14) (kd := 8) (len := 40) hT hn_49 (by decide) (by decide)
  obtain ⟨u14, hu⟩ : ∃ u14 : zW, u14 = (zsP (zNew u13 q14 8 40) 614 y (some q14)) := ⟨_, rfl⟩
  rw [← hu] at hH
  have hT : mIn w u14 y 15 _ := hu.symm ▸ hT
  clear hu
  have k_y := hT.1
  refine lv_aload_n hx hb dX6_init_108 rfl (lv_at hl 0 rfl) ?_
  refine lv_bipush (v := 10) hx hb dX6_init_109 (by decide) ?_
  refine z_newa (atype := .int) (ty := .int) (k := 8) (t0 := 0) (N' := 10) (a0 := (10, .inl (fun _ => 0))) hx hb (hts (.arrayClass .int) (by decide +kernel)) rfl hA hH hS rfl rfl rfl (fun q => znew_a8 q 10) (by decide) (by decide) (Nat.le_of_ble_eq_true rfl) (Nat.le_of_ble_eq_true rfl) (Nat.le_of_ble_eq_true rfl) dX6_init_111 (fun q15 H hn_53 hH hS => ?_)
  have f_54 := ((zNew_old (k := 8) (n := 10) hn_53 (zk0 k_y (by decide))).2.1).trans k_y
  have f_55 := (zNew_new (w := u14) (q := q15) (k := 8) (n := 10)).1
  have f_56 := (zNew_new (w := u14) (q := q15) (k := 8) (n := 10)).2.2.2.1
  refine z_putF (C := RX6) (T := TX6) (N := 28) (ci := 6) (index := 50) (v := .ref q15) (ty := .array .int) hx hb hts hi6 tyX6 tyX6_ok nmX6 hown hA hH hS (zk0 f_54 (by decide)) (zE_k7 f_54) rfl 15 (by decide) (hts (.fieldLink RX6 50 "ParoleCardsModel" "span" "[I") (by decide +kernel)) (fun _ h9 => h9) rfl hin rfl (by decide +kernel) rfl rfl (Nat.le_of_ble_eq_true rfl) (w' := zsP (zNew u14 q15 8 10) 615 y (some q15)) (zs_615 (w := (zNew u14 q15 8 10)) f_54 _) (zsP_oth (zNew u14 q15 8 10) 615 y _) (fun _ => rfl) dX6_init_113 (fun H locs hH hS => ?_)
  have hT := mIn_step (n := 15) (kd := 8) (len := 10) hT hn_53 (by decide) (by decide)
  obtain ⟨u15, hu⟩ : ∃ u15 : zW, u15 = (zsP (zNew u14 q15 8 10) 615 y (some q15)) := ⟨_, rfl⟩
  rw [← hu] at hH
  have hT : mIn w u15 y 16 _ := hu.symm ▸ hT
  clear hu
  have k_y := hT.1
  refine lv_aload_n hx hb dX6_init_116 rfl (lv_at hl 0 rfl) ?_
  refine lv_bipush (v := 10) hx hb dX6_init_117 (by decide) ?_
  refine z_newa (atype := .int) (ty := .int) (k := 8) (t0 := 0) (N' := 10) (a0 := (10, .inl (fun _ => 0))) hx hb (hts (.arrayClass .int) (by decide +kernel)) rfl hA hH hS rfl rfl rfl (fun q => znew_a8 q 10) (by decide) (by decide) (Nat.le_of_ble_eq_true rfl) (Nat.le_of_ble_eq_true rfl) (Nat.le_of_ble_eq_true rfl) dX6_init_119 (fun q16 H hn_57 hH hS => ?_)
  have f_58 := ((zNew_old (k := 8) (n := 10) hn_57 (zk0 k_y (by decide))).2.1).trans k_y
  have f_59 := (zNew_new (w := u15) (q := q16) (k := 8) (n := 10)).1
  have f_60 := (zNew_new (w := u15) (q := q16) (k := 8) (n := 10)).2.2.2.1
  refine z_putF (C := RX6) (T := TX6) (N := 28) (ci := 6) (index := 53) (v := .ref q16) (ty := .array .int) hx hb hts hi6 tyX6 tyX6_ok nmX6 hown hA hH hS (zk0 f_58 (by decide)) (zE_k7 f_58) rfl 16 (by decide) (hts (.fieldLink RX6 53 "ParoleCardsModel" "bought" "[I") (by decide +kernel)) (fun _ h9 => h9) rfl hin rfl (by decide +kernel) rfl rfl (Nat.le_of_ble_eq_true rfl) (w' := zsP (zNew u15 q16 8 10) 616 y (some q16)) (zs_616 (w := (zNew u15 q16 8 10)) f_58 _) (zsP_oth (zNew u15 q16 8 10) 616 y _) (fun _ => rfl) dX6_init_121 (fun H locs hH hS => ?_)
  have hT := mIn_step (n := 16) (kd := 8) (len := 10) hT hn_57 (by decide) (by decide)
  obtain ⟨u16, hu⟩ : ∃ u16 : zW, u16 = (zsP (zNew u15 q16 8 10) 616 y (some q16)) := ⟨_, rfl⟩
  rw [← hu] at hH
  have hT : mIn w u16 y 17 _ := hu.symm ▸ hT
  clear hu
  have k_y := hT.1
  refine lv_aload_n hx hb dX6_init_124 rfl (lv_at hl 0 rfl) ?_
  refine lv_sipush (v := 500) hx hb dX6_init_125 (by decide) ?_
  refine z_newa (atype := .int) (ty := .int) (k := 8) (t0 := 0) (N' := 500) (a0 := (500, .inl (fun _ => 0))) hx hb (hts (.arrayClass .int) (by decide +kernel)) rfl hA hH hS rfl rfl rfl (fun q => znew_a8 q 500) (by decide) (by decide) (Nat.le_of_ble_eq_true rfl) (Nat.le_of_ble_eq_true rfl) (Nat.le_of_ble_eq_true rfl) dX6_init_128 (fun q17 H hn_61 hH hS => ?_)
  have f_62 := ((zNew_old (k := 8) (n := 500) hn_61 (zk0 k_y (by decide))).2.1).trans k_y
  have f_63 := (zNew_new (w := u16) (q := q17) (k := 8) (n := 500)).1
  have f_64 := (zNew_new (w := u16) (q := q17) (k := 8) (n := 500)).2.2.2.1
  refine z_putF (C := RX6) (T := TX6) (N := 28) (ci := 6) (index := 56) (v := .ref q17) (ty := .array .int) hx hb hts hi6 tyX6 tyX6_ok nmX6 hown hA hH hS (zk0 f_62 (by decide)) (zE_k7 f_62) rfl 17 (by decide) (hts (.fieldLink RX6 56 "ParoleCardsModel" "lost" "[I") (by decide +kernel)) (fun _ h9 => h9) rfl hin rfl (by decide +kernel) rfl rfl (Nat.le_of_ble_eq_true rfl) (w' := zsP (zNew u16 q17 8 500) 617 y (some q17)) (zs_617 (w := (zNew u16 q17 8 500)) f_62 _) (zsP_oth (zNew u16 q17 8 500) 617 y _) (fun _ => rfl) dX6_init_130 (fun H locs hH hS => ?_)
  have hT := mIn_step (n := 17) (kd := 8) (len := 500) hT hn_61 (by decide) (by decide)
  obtain ⟨u17, hu⟩ : ∃ u17 : zW, u17 = (zsP (zNew u16 q17 8 500) 617 y (some q17)) := ⟨_, rfl⟩
  rw [← hu] at hH
  have hT : mIn w u17 y 18 _ := hu.symm ▸ hT
  clear hu
  have k_y := hT.1
  refine lv_aload_n hx hb dX6_init_133 rfl (lv_at hl 0 rfl) ?_
  refine lv_sipush (v := 500) hx hb dX6_init_134 (by decide) ?_
  refine z_newa (atype := .int) (ty := .int) (k := 8) (t0 := 0) (N' := 500) (a0 := (500, .inl (fun _ => 0))) hx hb (hts (.arrayClass .int) (by decide +kernel)) rfl hA hH hS rfl rfl rfl (fun q => znew_a8 q 500) (by decide) (by decide) (Nat.le_of_ble_eq_true rfl) (Nat.le_of_ble_eq_true rfl) (Nat.le_of_ble_eq_true rfl) dX6_init_137 (fun q18 H hn_65 hH hS => ?_)
  have f_66 := ((zNew_old (k := 8) (n := 500) hn_65 (zk0 k_y (by decide))).2.1).trans k_y
  have f_67 := (zNew_new (w := u17) (q := q18) (k := 8) (n := 500)).1
  have f_68 := (zNew_new (w := u17) (q := q18) (k := 8) (n := 500)).2.2.2.1
  refine z_putF (C := RX6) (T := TX6) (N := 28) (ci := 6) (index := 59) (v := .ref q18) (ty := .array .int) hx hb hts hi6 tyX6 tyX6_ok nmX6 hown hA hH hS (zk0 f_66 (by decide)) (zE_k7 f_66) rfl 18 (by decide) (hts (.fieldLink RX6 59 "ParoleCardsModel" "lostOn" "[I") (by decide +kernel)) (fun _ h9 => h9) rfl hin rfl (by decide +kernel) rfl rfl (Nat.le_of_ble_eq_true rfl) (w' := zsP (zNew u17 q18 8 500) 618 y (some q18)) (zs_618 (w := (zNew u17 q18 8 500)) f_66 _) (zsP_oth (zNew u17 q18 8 500) 618 y _) (fun _ => rfl) dX6_init_139 (fun H locs hH hS => ?_)
  have hT := mIn_step (n := 18) (kd := 8) (len := 500) hT hn_65 (by decide) (by decide)
  obtain ⟨u18, hu⟩ : ∃ u18 : zW, u18 = (zsP (zNew u17 q18 8 500) 618 y (some q18)) := ⟨_, rfl⟩
  rw [← hu] at hH
  have hT : mIn w u18 y 19 _ := hu.symm ▸ hT
  clear hu
  have k_y := hT.1
  refine lv_aload_n hx hb dX6_init_142 rfl (lv_at hl 0 rfl) ?_
  refine lv_sipush (v := 500) hx hb dX6_init_143 (by decide) ?_
  refine z_newa (atype := .boolean) (ty := .boolean) (k := 9) (t0 := 1) (N' := 500) (a0 := (500, .inl (fun _ => 0))) hx hb (hts (.arrayClass .boolean) (by decide +kernel)) rfl hA hH hS rfl rfl rfl (fun q => znew_a9 q 500) (by decide) (by decide) (Nat.le_of_ble_eq_true rfl) (Nat.le_of_ble_eq_true rfl) (Nat.le_of_ble_eq_true rfl) dX6_init_146 (fun q19 H hn_69 hH hS => ?_)
  have f_70 := ((zNew_old (k := 9) (n := 500) hn_69 (zk0 k_y (by decide))).2.1).trans k_y
  have f_71 := (zNew_new (w := u18) (q := q19) (k := 9) (n := 500)).1
  have f_72 := (zNew_new (w := u18) (q := q19) (k := 9) (n := 500)).2.2.2.1
  refine z_putF (C := RX6) (T := TX6) (N := 28) (ci := 6) (index := 62) (v := .ref q19) (ty := .array .boolean) hx hb hts hi6 tyX6 tyX6_ok nmX6 hown hA hH hS (zk0 f_70 (by decide)) (zE_k7 f_70) rfl 19 (by decide) (hts (.fieldLink RX6 62 "ParoleCardsModel" "isLower" "[Z") (by decide +kernel)) (fun _ h9 => h9) rfl hin rfl (by decide +kernel) rfl rfl (Nat.le_of_ble_eq_true rfl) (w' := zsP (zNew u18 q19 9 500) 619 y (some q19)) (zs_619 (w := (zNew u18 q19 9 500)) f_70 _) (zsP_oth (zNew u18 q19 9 500) 619 y _) (fun _ => rfl) dX6_init_148 (fun H locs hH hS => ?_)
  have hT := mIn_step (n := 19) (kd := 9) (len := 500) hT hn_69 (by decide) (by decide)
  obtain ⟨u19, hu⟩ : ∃ u19 : zW, u19 = (zsP (zNew u18 q19 9 500) 619 y (some q19)) := ⟨_, rfl⟩
  rw [← hu] at hH
  have hT : mIn w u19 y 20 _ := hu.symm ▸ hT
  clear hu
  have k_y := hT.1
  refine lv_aload_n hx hb dX6_init_151 rfl (lv_at hl 0 rfl) ?_
  refine lv_sipush (v := 500) hx hb dX6_init_152 (by decide) ?_
  refine z_newa (atype := .boolean) (ty := .boolean) (k := 9) (t0 := 1) (N' := 500) (a0 := (500, .inl (fun _ => 0))) hx hb (hts (.arrayClass .boolean) (by decide +kernel)) rfl hA hH hS rfl rfl rfl (fun q => znew_a9 q 500) (by decide) (by decide) (Nat.le_of_ble_eq_true rfl) (Nat.le_of_ble_eq_true rfl) (Nat.le_of_ble_eq_true rfl) dX6_init_155 (fun q20 H hn_73 hH hS => ?_)
  have f_74 := ((zNew_old (k := 9) (n := 500) hn_73 (zk0 k_y (by decide))).2.1).trans k_y
  have f_75 := (zNew_new (w := u19) (q := q20) (k := 9) (n := 500)).1
  have f_76 := (zNew_new (w := u19) (q := q20) (k := 9) (n := 500)).2.2.2.1
  refine z_putF (C := RX6) (T := TX6) (N := 28) (ci := 6) (index := 65) (v := .ref q20) (ty := .array .boolean) hx hb hts hi6 tyX6 tyX6_ok nmX6 hown hA hH hS (zk0 f_74 (by decide)) (zE_k7 f_74) rfl 20 (by decide) (hts (.fieldLink RX6 65 "ParoleCardsModel" "isAppealed" "[Z") (by decide +kernel)) (fun _ h9 => h9) rfl hin rfl (by decide +kernel) rfl rfl (Nat.le_of_ble_eq_true rfl) (w' := zsP (zNew u19 q20 9 500) 620 y (some q20)) (zs_620 (w := (zNew u19 q20 9 500)) f_74 _) (zsP_oth (zNew u19 q20 9 500) 620 y _) (fun _ => rfl) dX6_init_157 (fun H locs hH hS => ?_)
  have hT := mIn_step (n := 20) (kd := 9) (len := 500) hT hn_73 (by decide) (by decide)
  obtain ⟨u20, hu⟩ : ∃ u20 : zW, u20 = (zsP (zNew u19 q20 9 500) 620 y (some q20)) := ⟨_, rfl⟩
  rw [← hu] at hH
  have hT : mIn w u20 y 21 _ := hu.symm ▸ hT
  clear hu
  have k_y := hT.1
  refine lv_aload_n hx hb dX6_init_160 rfl (lv_at hl 0 rfl) ?_
  refine lv_iconst (v := 3) hx hb dX6_init_161 (by decide) ?_
  refine z_newa (atype := .int) (ty := .int) (k := 8) (t0 := 0) (N' := 3) (a0 := (3, .inl (fun _ => 0))) hx hb (hts (.arrayClass .int) (by decide +kernel)) rfl hA hH hS rfl rfl rfl (fun q => znew_a8 q 3) (by decide) (by decide) (Nat.le_of_ble_eq_true rfl) (Nat.le_of_ble_eq_true rfl) (Nat.le_of_ble_eq_true rfl) dX6_init_162 (fun q21 H hn_77 hH hS => ?_)
  have f_78 := ((zNew_old (k := 8) (n := 3) hn_77 (zk0 k_y (by decide))).2.1).trans k_y
  have f_79 := (zNew_new (w := u20) (q := q21) (k := 8) (n := 3)).1
  have f_80 := (zNew_new (w := u20) (q := q21) (k := 8) (n := 3)).2.2.2.1
  refine z_putF (C := RX6) (T := TX6) (N := 28) (ci := 6) (index := 68) (v := .ref q21) (ty := .array .int) hx hb hts hi6 tyX6 tyX6_ok nmX6 hown hA hH hS (zk0 f_78 (by decide)) (zE_k7 f_78) rfl 21 (by decide) (hts (.fieldLink RX6 68 "ParoleCardsModel" "tools" "[I") (by decide +kernel)) (fun _ h9 => h9) rfl hin rfl (by decide +kernel) rfl rfl (Nat.le_of_ble_eq_true rfl) (w' := zsP (zNew u20 q21 8 3) 621 y (some q21)) (zs_621 (w := (zNew u20 q21 8 3)) f_78 _) (zsP_oth (zNew u20 q21 8 3) 621 y _) (fun _ => rfl) dX6_init_164 (fun H locs hH hS => ?_)
  have hT := mIn_step (n := 21) (kd := 8) (len := 3) hT hn_77 (by decide) (by decide)
  obtain ⟨u21, hu⟩ : ∃ u21 : zW, u21 = (zsP (zNew u20 q21 8 3) 621 y (some q21)) := ⟨_, rfl⟩
  rw [← hu] at hH
  have hT : mIn w u21 y 22 _ := hu.symm ▸ hT
  clear hu
  have k_y := hT.1
  refine lv_aload_n hx hb dX6_init_167 rfl (lv_at hl 0 rfl) ?_
  refine lv_bipush (v := 8) hx hb dX6_init_168 (by decide) ?_
  refine z_newa (atype := .int) (ty := .int) (k := 8) (t0 := 0) (N' := 8) (a0 := (8, .inl (fun _ => 0))) hx hb (hts (.arrayClass .int) (by decide +kernel)) rfl hA hH hS rfl rfl rfl (fun q => znew_a8 q 8) (by decide) (by decide) (Nat.le_of_ble_eq_true rfl) (Nat.le_of_ble_eq_true rfl) (Nat.le_of_ble_eq_true rfl) dX6_init_170 (fun q23 H hn_81 hH hS => ?_)
  have f_82 := ((zNew_old (k := 8) (n := 8) hn_81 (zk0 k_y (by decide))).2.1).trans k_y
  have f_83 := (zNew_new (w := u21) (q := q23) (k := 8) (n := 8)).1
  have f_84 := (zNew_new (w := u21) (q := q23) (k := 8) (n := 8)).2.2.2.1
  refine z_putF (C := RX6) (T := TX6) (N := 28) (ci := 6) (index := 71) (v := .ref q23) (ty := .array .int) hx hb hts hi6 tyX6 tyX6_ok nmX6 hown hA hH hS (zk0 f_82 (by decide)) (zE_k7 f_82) rfl 23 (by decide) (hts (.fieldLink RX6 71 "ParoleCardsModel" "skill" "[I") (by decide +kernel)) (fun _ h9 => h9) rfl hin rfl (by decide +kernel) rfl rfl (Nat.le_of_ble_eq_true rfl) (w' := zsP (zNew u21 q23 8 8) 623 y (some q23)) (zs_623 (w := (zNew u21 q23 8 8)) f_82 _) (zsP_oth (zNew u21 q23 8 8) 623 y _) (fun _ => rfl) dX6_init_172 (fun H locs hH hS => ?_)
  have hT := mIn_skip hT
  have hT := mIn_step (n := 23) (kd := 8) (len := 8) hT hn_81 (by decide) (by decide)
  obtain ⟨u23, hu⟩ : ∃ u23 : zW, u23 = (zsP (zNew u21 q23 8 8) 623 y (some q23)) := ⟨_, rfl⟩
  rw [← hu] at hH
  have hT : mIn w u23 y 24 _ := hu.symm ▸ hT
  clear hu
  have k_y := hT.1
  refine lv_aload_n hx hb dX6_init_175 rfl (lv_at hl 0 rfl) ?_
  refine lv_bipush (v := 8) hx hb dX6_init_176 (by decide) ?_
  refine z_newa (atype := .int) (ty := .int) (k := 8) (t0 := 0) (N' := 8) (a0 := (8, .inl (fun _ => 0))) hx hb (hts (.arrayClass .int) (by decide +kernel)) rfl hA hH hS rfl rfl rfl (fun q => znew_a8 q 8) (by decide) (by decide) (Nat.le_of_ble_eq_true rfl) (Nat.le_of_ble_eq_true rfl) (Nat.le_of_ble_eq_true rfl) dX6_init_178 (fun q24 H hn_85 hH hS => ?_)
  have f_86 := ((zNew_old (k := 8) (n := 8) hn_85 (zk0 k_y (by decide))).2.1).trans k_y
  have f_87 := (zNew_new (w := u23) (q := q24) (k := 8) (n := 8)).1
  have f_88 := (zNew_new (w := u23) (q := q24) (k := 8) (n := 8)).2.2.2.1
  refine z_putF (C := RX6) (T := TX6) (N := 28) (ci := 6) (index := 74) (v := .ref q24) (ty := .array .int) hx hb hts hi6 tyX6 tyX6_ok nmX6 hown hA hH hS (zk0 f_86 (by decide)) (zE_k7 f_86) rfl 24 (by decide) (hts (.fieldLink RX6 74 "ParoleCardsModel" "kind" "[I") (by decide +kernel)) (fun _ h9 => h9) rfl hin rfl (by decide +kernel) rfl rfl (Nat.le_of_ble_eq_true rfl) (w' := zsP (zNew u23 q24 8 8) 624 y (some q24)) (zs_624 (w := (zNew u23 q24 8 8)) f_86 _) (zsP_oth (zNew u23 q24 8 8) 624 y _) (fun _ => rfl) dX6_init_180 (fun H locs hH hS => ?_)
  have hT := mIn_step (n := 24) (kd := 8) (len := 8) hT hn_85 (by decide) (by decide)
  obtain ⟨u24, hu⟩ : ∃ u24 : zW, u24 = (zsP (zNew u23 q24 8 8) 624 y (some q24)) := ⟨_, rfl⟩
  rw [← hu] at hH
  have hT : mIn w u24 y 25 _ := hu.symm ▸ hT
  clear hu
  have k_y := hT.1
  refine lv_aload_n hx hb dX6_init_183 rfl (lv_at hl 0 rfl) ?_
  refine lv_bipush (v := 8) hx hb dX6_init_184 (by decide) ?_
  refine z_newa (atype := .int) (ty := .int) (k := 8) (t0 := 0) (N' := 8) (a0 := (8, .inl (fun _ => 0))) hx hb (hts (.arrayClass .int) (by decide +kernel)) rfl hA hH hS rfl rfl rfl (fun q => znew_a8 q 8) (by decide) (by decide) (Nat.le_of_ble_eq_true rfl) (Nat.le_of_ble_eq_true rfl) (Nat.le_of_ble_eq_true rfl) dX6_init_186 (fun q25 H hn_89 hH hS => ?_)
  have f_90 := ((zNew_old (k := 8) (n := 8) hn_89 (zk0 k_y (by decide))).2.1).trans k_y
  have f_91 := (zNew_new (w := u24) (q := q25) (k := 8) (n := 8)).1
  have f_92 := (zNew_new (w := u24) (q := q25) (k := 8) (n := 8)).2.2.2.1
  refine z_putF (C := RX6) (T := TX6) (N := 28) (ci := 6) (index := 77) (v := .ref q25) (ty := .array .int) hx hb hts hi6 tyX6 tyX6_ok nmX6 hown hA hH hS (zk0 f_90 (by decide)) (zE_k7 f_90) rfl 25 (by decide) (hts (.fieldLink RX6 77 "ParoleCardsModel" "left" "[I") (by decide +kernel)) (fun _ h9 => h9) rfl hin rfl (by decide +kernel) rfl rfl (Nat.le_of_ble_eq_true rfl) (w' := zsP (zNew u24 q25 8 8) 625 y (some q25)) (zs_625 (w := (zNew u24 q25 8 8)) f_90 _) (zsP_oth (zNew u24 q25 8 8) 625 y _) (fun _ => rfl) dX6_init_188 (fun H locs hH hS => ?_)
  have hT := mIn_step (n := 25) (kd := 8) (len := 8) hT hn_89 (by decide) (by decide)
  obtain ⟨u25, hu⟩ : ∃ u25 : zW, u25 = (zsP (zNew u24 q25 8 8) 625 y (some q25)) := ⟨_, rfl⟩
  rw [← hu] at hH
  have hT : mIn w u25 y 26 _ := hu.symm ▸ hT
  clear hu
  have k_y := hT.1
  refine lv_aload_n hx hb dX6_init_191 rfl (lv_at hl 0 rfl) ?_
  refine lv_bipush (v := 8) hx hb dX6_init_192 (by decide) ?_
  refine z_newa (atype := .int) (ty := .int) (k := 8) (t0 := 0) (N' := 8) (a0 := (8, .inl (fun _ => 0))) hx hb (hts (.arrayClass .int) (by decide +kernel)) rfl hA hH hS rfl rfl rfl (fun q => znew_a8 q 8) (by decide) (by decide) (Nat.le_of_ble_eq_true rfl) (Nat.le_of_ble_eq_true rfl) (Nat.le_of_ble_eq_true rfl) dX6_init_194 (fun q26 H hn_93 hH hS => ?_)
  have f_94 := ((zNew_old (k := 8) (n := 8) hn_93 (zk0 k_y (by decide))).2.1).trans k_y
  have f_95 := (zNew_new (w := u25) (q := q26) (k := 8) (n := 8)).1
  have f_96 := (zNew_new (w := u25) (q := q26) (k := 8) (n := 8)).2.2.2.1
  refine z_putF (C := RX6) (T := TX6) (N := 28) (ci := 6) (index := 80) (v := .ref q26) (ty := .array .int) hx hb hts hi6 tyX6 tyX6_ok nmX6 hown hA hH hS (zk0 f_94 (by decide)) (zE_k7 f_94) rfl 26 (by decide) (hts (.fieldLink RX6 80 "ParoleCardsModel" "wage" "[I") (by decide +kernel)) (fun _ h9 => h9) rfl hin rfl (by decide +kernel) rfl rfl (Nat.le_of_ble_eq_true rfl) (w' := zsP (zNew u25 q26 8 8) 626 y (some q26)) (zs_626 (w := (zNew u25 q26 8 8)) f_94 _) (zsP_oth (zNew u25 q26 8 8) 626 y _) (fun _ => rfl) dX6_init_196 (fun H locs hH hS => ?_)
  have hT := mIn_step (n := 26) (kd := 8) (len := 8) hT hn_93 (by decide) (by decide)
  obtain ⟨u26, hu⟩ : ∃ u26 : zW, u26 = (zsP (zNew u25 q26 8 8) 626 y (some q26)) := ⟨_, rfl⟩
  rw [← hu] at hH
  have hT : mIn w u26 y 27 _ := hu.symm ▸ hT
  clear hu
  have k_y := hT.1
  exact z_vret hx hb hr hlocks hH hS ⟨⟨_, (mIn_end hT).1⟩, (mIn_end hT).2⟩ (by decide) (by decide) dX6_init_199
