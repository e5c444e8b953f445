theorem n50 {x : Int32} {n : Nat} (h : x = nI n) (c : x < 50) {hn : n ≤ 50} : n < 50 := by
  rw [h] at c
  rcases Nat.lt_or_ge n 50 with q | q
  · exact q
  · have e : n = 50 := Nat.le_antisymm hn q
    rw [e] at c
    exact absurd c (by decide)
set_option maxHeartbeats 4000000 in
set_option maxRecDepth 100000 in
theorem c3_init (l : Launch) (D : va_G) (cy : Nat → ClassId) (base : Nat) (w : zW) (q : Nat) (k_q : zK w q = 4) : Met l yX3_init wsX3_init ({ frames := 1, cells := 1, slots := 4, locals := 20 }) (zPc D cy base (zH D cy base) [.ref q] w) (zQv base (zH D cy base) (fun (u0 : zW) => (∃ n1 : Nat, zK w n1 = 0 ∧ u0 = zsP (zNew w n1 15 4) 300 q (some n1)) ∧ u0 = u0)) 1 4 (fun q => base ≤ q) := by
  refine Met.ofW (cc := cX3_init) (maxL := 1) (ret := none) (by decide) rfl ?_
  intro p e s m args below meth c s₁ B9 hml hv
  obtain ⟨rfl, hA, hH⟩ := hv
  have hx := B9.exec
  have hb := B9.bytes
  have hr := B9.returns
  have hts := atoms_spec (ws := wsX3_init) B9.pre
  have hown : s.vm.findClass RX3 = some m.cls := findClass_of_methodNamed B9.named
  have hlocks := B9.notSynchronized
  have hin : meth.name = "<init>" := (name_of_methodNamed B9.named B9.method).1
  have hi3 : ∀ w ∈ wsX30, w ∈ wsX3_init := by decide +kernel
  have hS : va_S (fun q : Nat => base ≤ q) s.heap s.heap [] := va_S.rf
  have hl := lv_entry ([.ref q]) (n := 1) (Nat.le_of_ble_eq_true rfl)
  rw [lg_entry_eq]
  generalize (lg_sl ([.ref q]) ++ List.replicate (1 - (lg_sl ([.ref q])).length) Slot.unset).toArray = ls at hl ⊢
  have hl : lv_has ls 1 [(0, .ref q)] := hl
  refine lv_aload_n hx hb dX3_init_0 rfl (lv_at hl 0 rfl) ?_
  refine W.objInit hx hb hown (hts (.methodLink RX3 3 objectInit) (by decide +kernel)) (hts (.instanceMethod objectInit) (by decide +kernel)) (hts (.code objectInit ⟨#[0xb1]⟩ 1 none) (by decide +kernel)) rfl (by rw [hml]; exact hl.1) rfl dX3_init_1 (Nat.le_of_ble_eq_true rfl) (Nat.le_of_ble_eq_true rfl) ?_
  refine W.eq (g2 := F0 m 4 ls []) rfl ?_
  refine lv_aload_n hx hb dX3_init_4 rfl (lv_at hl 0 rfl) ?_
  refine lv_iconst (v := 4) hx hb dX3_init_5 (by decide) ?_
  refine z_newa (atype := .int) (ty := .int) (k := 15) (t0 := 0) (N' := 4) (a0 := (4, .inl (fun _ => 0))) hx hb (hts (.arrayClass .int) (by decide +kernel)) rfl hA hH hS rfl rfl rfl (fun q => znew_a15 q 4) (by decide) (by decide) (Nat.le_of_ble_eq_true rfl) (Nat.le_of_ble_eq_true rfl) (Nat.le_of_ble_eq_true rfl) dX3_init_6 (fun n1 H hn_1 hH hS => ?_)
  have f_2 := ((zNew_old (k := 15) (n := 4) hn_1 (zk0 k_q (by decide))).2.1).trans k_q
  have f_3 := (zNew_new (w := w) (q := n1) (k := 15) (n := 4)).1
  have f_4 := (zNew_new (w := w) (q := n1) (k := 15) (n := 4)).2.2.2.1
  refine z_putF (C := RX3) (T := TX3) (N := 4) (ci := 3) (index := 9) (v := .ref n1) (ty := .array .int) hx hb hts hi3 tyX3 tyX3_ok nmX3 hown hA hH hS (zk0 f_2 (by decide)) (zE_k4 f_2) rfl 0 (by decide) (hts (.fieldLink RX3 9 "ParoleCards$Purse" "accounts" "[I") (by decide +kernel)) (fun _ h9 => h9) rfl hin rfl (by decide +kernel) rfl rfl (Nat.le_of_ble_eq_true rfl) (w' := zsP (zNew w n1 15 4) 300 q (some n1)) (zs_300 (w := (zNew w n1 15 4)) f_2 _) (zsP_oth (zNew w n1 15 4) 300 q _) (fun _ => rfl) dX3_init_8 (fun H locs hH hS => ?_)
  exact z_vret hx hb hr hlocks hH hS ⟨⟨n1, hn_1, rfl⟩, rfl⟩ (by decide) (by decide) dX3_init_11
set_option maxHeartbeats 4000000 in
set_option maxRecDepth 100000 in
theorem c2_init (l : Launch) (D : va_G) (cy : Nat → ClassId) (base : Nat) (w : zW) (a : Nat) (ad : Int32) (tm : Int32) (sk : Int32) (k_a : zK w a = 3) : Met l yX2_init wsX2_init ({ frames := 2, cells := 3, slots := 58, locals := 40 }) (zPc D cy base (zH D cy base) [.ref a, .int ad, .int tm, .int sk] w) (zQv base (zH D cy base) (fun (u0 : zW) => (∃ fa q r : Nat, zK (zsI w 203 a 1) fa = 0 ∧ zK (zsP (zNew (zsI w 203 a 1) fa 10 50) 207 a (some fa)) q = 0 ∧ zK (zNew (zsP (zNew (zsI w 203 a 1) fa 10 50) 207 a (some fa)) q 4 0) r = 0 ∧ u0 = (zsI (zsI (zsI (zsP (zsP (zNew (zNew (zsP (zNew (zsI w 203 a 1) fa 10 50) 207 a (some fa)) q 4 0) r 15 4) 300 q (some r)) 211 a (some q)) 200 a ad) 201 a tm) 202 a sk)) ∧ u0 = u0)) 3 58 (fun q => base ≤ q) := by
  refine Met.ofW (cc := cX2_init) (maxL := 4) (ret := none) (by decide) rfl ?_
  intro p e s m args below meth c s₁ B9 hml hv
  obtain ⟨rfl, hA, hH⟩ := hv
  have hx := B9.exec
  have hb := B9.bytes
  have hr := B9.returns
  have hts := atoms_spec (ws := wsX2_init) B9.pre
  have hown : s.vm.findClass RX2 = some m.cls := findClass_of_methodNamed B9.named
  have hlocks := B9.notSynchronized
  have hin : meth.name = "<init>" := (name_of_methodNamed B9.named B9.method).1
  have hi2 : ∀ w ∈ wsX20, w ∈ wsX2_init := by decide +kernel
  have hi3 : ∀ w ∈ wsX30, w ∈ wsX2_init := by decide +kernel
  have hS : va_S (fun q : Nat => base ≤ q) s.heap s.heap [] := va_S.rf
  have hl := lv_entry ([.ref a, .int ad, .int tm, .int sk]) (n := 4) (Nat.le_of_ble_eq_true rfl)
  rw [lg_entry_eq]
  generalize (lg_sl ([.ref a, .int ad, .int tm, .int sk]) ++ List.replicate (4 - (lg_sl ([.ref a, .int ad, .int tm, .int sk])).length) Slot.unset).toArray = ls at hl ⊢
  have hl : lv_has ls 4 [(0, .ref a), (1, .int ad), (2, .int tm), (3, .int sk)] := hl
  refine lv_aload_n hx hb dX2_init_0 rfl (lv_at hl 0 rfl) ?_
  refine W.objInit hx hb hown (hts (.methodLink RX2 3 objectInit) (by decide +kernel)) (hts (.instanceMethod objectInit) (by decide +kernel)) (hts (.code objectInit ⟨#[0xb1]⟩ 1 none) (by decide +kernel)) rfl (by rw [hml]; exact hl.1) rfl dX2_init_1 (Nat.le_of_ble_eq_true rfl) (Nat.le_of_ble_eq_true rfl) ?_
  refine W.eq (g2 := F0 m 4 ls []) rfl ?_
  refine lv_aload_n hx hb dX2_init_4 rfl (lv_at hl 0 rfl) ?_
  refine lv_iconst (v := 1) hx hb dX2_init_5 (by decide) ?_
  refine z_put (C := RX2) (T := TX2) (N := 14) (ci := 2) (index := 9) (v := .int 1) (ty := .int) hx hb hts hi2 tyX2 tyX2_ok nmX2 hown hA hH hS (zk0 k_a (by decide)) (zE_k3 k_a) rfl 3 (by decide) (hts (.fieldLink RX2 9 "ParoleCards$Person" "regimeNow" "I") (by decide +kernel)) (fun _ h9 => h9) rfl (by decide +kernel) rfl rfl (Nat.le_of_ble_eq_true rfl) (w' := zsI w 203 a 1) (zs_203 (w := w) k_a _) (zsI_oth w 203 a _) (fun _ => rfl) dX2_init_6 (fun H locs hH hS => ?_)
  refine lv_aload_n hx hb dX2_init_9 rfl (lv_at hl 0 rfl) ?_
  refine lv_bipush (v := 50) hx hb dX2_init_10 (by decide) ?_
  refine z_newq (k := 10) (t0 := 2) (N' := 50) hx hb hown (hts (.classLink RX2 15 RX0) (by decide +kernel)) hA.2.2.2.2.2.1.1 hA hH hS rfl (fun q => znew_a10 q 50) (by decide) (by decide) (Nat.le_of_ble_eq_true rfl) (Nat.le_of_ble_eq_true rfl) (Nat.le_of_ble_eq_true rfl) dX2_init_12 (fun fa H hn_1 hH hS => ?_)
  have f_2 := ((zNew_old (k := 10) (n := 50) hn_1 (zk0 k_a (by decide))).2.1).trans k_a
  have f_3 := (zNew_new (w := (zsI w 203 a 1)) (q := fa) (k := 10) (n := 50)).1
  have f_4 := (zNew_new (w := (zsI w 203 a 1)) (q := fa) (k := 10) (n := 50)).2.2.2.1
  refine z_putF (C := RX2) (T := TX2) (N := 14) (ci := 2) (index := 17) (v := .ref fa) (ty := .array (.object "ParoleCards$Offence")) hx hb hts hi2 tyX2 tyX2_ok nmX2 hown hA hH hS (zk0 f_2 (by decide)) (zE_k3 f_2) rfl 7 (by decide) (hts (.fieldLink RX2 17 "ParoleCards$Person" "offences" "[LParoleCards$Offence;") (by decide +kernel)) (fun _ h9 => h9) rfl hin rfl (by decide +kernel) rfl rfl (Nat.le_of_ble_eq_true rfl) (w' := zsP (zNew (zsI w 203 a 1) fa 10 50) 207 a (some fa)) (zs_207 (w := (zNew (zsI w 203 a 1) fa 10 50)) f_2 _) (zsP_oth (zNew (zsI w 203 a 1) fa 10 50) 207 a _) (fun _ => rfl) dX2_init_15 (fun H locs hH hS => ?_)
  refine lv_aload_n hx hb dX2_init_18 rfl (lv_at hl 0 rfl) ?_
  refine z_new (C := RX3) (T := TX3) (N := 4) (ci := 3) (k := 4) (index := 21) hx hb hts hi3 tyX3 tyX3_ok hown (hts (.classLink RX2 21 RX3) (by decide +kernel)) (hts (.instantiable RX3 4) (by decide +kernel)) (hts (.initialized RX3) (by decide +kernel)) hA hH hS rfl zdf_3 (fun q => znew_3 q) (Nat.le_of_ble_eq_true rfl) (Nat.le_of_ble_eq_true rfl) dX2_init_19 (fun q H hn_5 hH hS => ?_)
  have f_6 := ((zNew_old (k := 4) (n := 0) hn_5 (zk0 f_2 (by decide))).2.1).trans f_2
  have f_7 := ((zNew_old (k := 4) (n := 0) hn_5 (zk0 f_3 (by decide))).2.1).trans f_3
  have f_8 := ((zNew_old (k := 4) (n := 0) hn_5 (zk0 f_3 (by decide))).2.2.2.2.1).trans f_4
  have f_9 := (zNew_new (w := (zsP (zNew (zsI w 203 a 1) fa 10 50) 207 a (some fa))) (q := q) (k := 4) (n := 0)).1
  refine lv_dup hx hb dX2_init_22 rfl ?_
  refine z_callv (va_runIN (As := []) (rest := [.ref q, .ref a]) ⟨hx, hb, hml, hown, hts⟩ (c3_init l D cy base (zNew (zsP (zNew (zsI w 203 a 1) fa 10 50) 207 a (some fa)) q 4 0) q f_9) ⟨va_cnB 0 hts gX2_init_X3_init_n23 rfl rfl rfl hA.2.2.2.2.2.2.2.2.2.1 (hts (.initialized RX3) (by decide +kernel)) (by decide +kernel) ⟨Nat.le_of_ble_eq_true rfl, Nat.le_of_ble_eq_true rfl⟩, rfl, (hts (.instanceMethod yX3_init) (by decide +kernel))⟩ (z_preS hA hS hH) rfl rfl hl.1 rfl (lv_room (Nat.le_of_ble_eq_true rfl)) dX2_init_23 ⟨Nat.le_of_ble_eq_true rfl, Nat.le_of_ble_eq_true rfl⟩) hS (fun u_k_10 H locs hw_k_10 hH hz_k_10 hS => ?_)
  obtain ⟨⟨r, hn_k_10, hu_k_10⟩, -⟩ := hw_k_10
  rw [hu_k_10] at hH
  have f_11 := ((zNew_old (k := 15) (n := 4) hn_k_10 (zk0 f_6 (by decide))).2.1).trans f_6
  have f_12 := ((zNew_old (k := 15) (n := 4) hn_k_10 (zk0 f_7 (by decide))).2.1).trans f_7
  have f_13 := ((zNew_old (k := 15) (n := 4) hn_k_10 (zk0 f_7 (by decide))).2.2.2.2.1).trans f_8
  have f_14 := ((zNew_old (k := 15) (n := 4) hn_k_10 (zk0 f_9 (by decide))).2.1).trans f_9
  have f_15 := (zNew_new (w := (zNew (zsP (zNew (zsI w 203 a 1) fa 10 50) 207 a (some fa)) q 4 0)) (q := r) (k := 15) (n := 4)).1
  have f_16 := (zNew_new (w := (zNew (zsP (zNew (zsI w 203 a 1) fa 10 50) 207 a (some fa)) q 4 0)) (q := r) (k := 15) (n := 4)).2.2.2.1
  refine z_putF (C := RX2) (T := TX2) (N := 14) (ci := 2) (index := 24) (v := .ref q) (ty := .object "ParoleCards$Purse") hx hb hts hi2 tyX2 tyX2_ok nmX2 hown hA hH hS (zk0 f_11 (by decide)) (zE_k3 f_11) rfl 11 (by decide) (hts (.fieldLink RX2 24 "ParoleCards$Person" "purse" "LParoleCards$Purse;") (by decide +kernel)) (fun _ h9 => h9) rfl hin rfl (by decide +kernel) rfl rfl (Nat.le_of_ble_eq_true rfl) (w' := zsP (zsP (zNew (zNew (zsP (zNew (zsI w 203 a 1) fa 10 50) 207 a (some fa)) q 4 0) r 15 4) 300 q (some r)) 211 a (some q)) (zs_211 (w := (zsP (zNew (zNew (zsP (zNew (zsI w 203 a 1) fa 10 50) 207 a (some fa)) q 4 0) r 15 4) 300 q (some r))) f_11 _) (zsP_oth (zsP (zNew (zNew (zsP (zNew (zsI w 203 a 1) fa 10 50) 207 a (some fa)) q 4 0) r 15 4) 300 q (some r)) 211 a _) (fun _ => rfl) dX2_init_26 (fun H locs hH hS => ?_)
  refine lv_aload_n hx hb dX2_init_29 rfl (lv_at hl 0 rfl) ?_
  refine lv_iload_n hx hb dX2_init_30 rfl (lv_at hl 1 rfl) ?_
  refine z_putF (C := RX2) (T := TX2) (N := 14) (ci := 2) (index := 28) (v := .int ad) (ty := .int) hx hb hts hi2 tyX2 tyX2_ok nmX2 hown hA hH hS (zk0 f_11 (by decide)) (zE_k3 f_11) rfl 0 (by decide) (hts (.fieldLink RX2 28 "ParoleCards$Person" "admittedOn" "I") (by decide +kernel)) (fun _ h9 => h9) rfl hin rfl (by decide +kernel) rfl rfl (Nat.le_of_ble_eq_true rfl) (w' := zsI (zsP (zsP (zNew (zNew (zsP (zNew (zsI w 203 a 1) fa 10 50) 207 a (some fa)) q 4 0) r 15 4) 300 q (some r)) 211 a (some q)) 200 a ad) (zs_200 (w := (zsP (zsP (zNew (zNew (zsP (zNew (zsI w 203 a 1) fa 10 50) 207 a (some fa)) q 4 0) r 15 4) 300 q (some r)) 211 a (some q))) f_11 _) (zsI_oth (zsP (zsP (zNew (zNew (zsP (zNew (zsI w 203 a 1) fa 10 50) 207 a (some fa)) q 4 0) r 15 4) 300 q (some r)) 211 a (some q)) 200 a _) (fun _ => rfl) dX2_init_31 (fun H locs hH hS => ?_)
  refine lv_aload_n hx hb dX2_init_34 rfl (lv_at hl 0 rfl) ?_
  refine lv_iload_n hx hb dX2_init_35 rfl (lv_at hl 2 rfl) ?_
  refine z_putF (C := RX2) (T := TX2) (N := 14) (ci := 2) (index := 31) (v := .int tm) (ty := .int) hx hb hts hi2 tyX2 tyX2_ok nmX2 hown hA hH hS (zk0 f_11 (by decide)) (zE_k3 f_11) rfl 1 (by decide) (hts (.fieldLink RX2 31 "ParoleCards$Person" "term" "I") (by decide +kernel)) (fun _ h9 => h9) rfl hin rfl (by decide +kernel) rfl rfl (Nat.le_of_ble_eq_true rfl) (w' := zsI (zsI (zsP (zsP (zNew (zNew (zsP (zNew (zsI w 203 a 1) fa 10 50) 207 a (some fa)) q 4 0) r 15 4) 300 q (some r)) 211 a (some q)) 200 a ad) 201 a tm) (zs_201 (w := (zsI (zsP (zsP (zNew (zNew (zsP (zNew (zsI w 203 a 1) fa 10 50) 207 a (some fa)) q 4 0) r 15 4) 300 q (some r)) 211 a (some q)) 200 a ad)) f_11 _) (zsI_oth (zsI (zsP (zsP (zNew (zNew (zsP (zNew (zsI w 203 a 1) fa 10 50) 207 a (some fa)) q 4 0) r 15 4) 300 q (some r)) 211 a (some q)) 200 a ad) 201 a _) (fun _ => rfl) dX2_init_36 (fun H locs hH hS => ?_)
  refine lv_aload_n hx hb dX2_init_39 rfl (lv_at hl 0 rfl) ?_
  refine lv_iload_n hx hb dX2_init_40 rfl (lv_at hl 3 rfl) ?_
  refine z_put (C := RX2) (T := TX2) (N := 14) (ci := 2) (index := 34) (v := .int sk) (ty := .int) hx hb hts hi2 tyX2 tyX2_ok nmX2 hown hA hH hS (zk0 f_11 (by decide)) (zE_k3 f_11) rfl 2 (by decide) (hts (.fieldLink RX2 34 "ParoleCards$Person" "skills" "I") (by decide +kernel)) (fun _ h9 => h9) rfl (by decide +kernel) rfl rfl (Nat.le_of_ble_eq_true rfl) (w' := zsI (zsI (zsI (zsP (zsP (zNew (zNew (zsP (zNew (zsI w 203 a 1) fa 10 50) 207 a (some fa)) q 4 0) r 15 4) 300 q (some r)) 211 a (some q)) 200 a ad) 201 a tm) 202 a sk) (zs_202 (w := (zsI (zsI (zsP (zsP (zNew (zNew (zsP (zNew (zsI w 203 a 1) fa 10 50) 207 a (some fa)) q 4 0) r 15 4) 300 q (some r)) 211 a (some q)) 200 a ad) 201 a tm)) f_11 _) (zsI_oth (zsI (zsI (zsP (zsP (zNew (zNew (zsP (zNew (zsI w 203 a 1) fa 10 50) 207 a (some fa)) q 4 0) r 15 4) 300 q (some r)) 211 a (some q)) 200 a ad) 201 a tm) 202 a _) (fun _ => rfl) dX2_init_41 (fun H locs hH hS => ?_)
  exact z_vret hx hb hr hlocks hH hS ⟨⟨fa, q, r, hn_1, hn_5, hn_k_10, rfl⟩, rfl⟩ (by decide) (by decide) dX2_init_44
set_option maxHeartbeats 4000000 in
set_option maxRecDepth 100000 in
theorem c2_enterOffence_n (l : Launch) (hl9 : l.stackTraces = false) (D : va_G) (cy : Nat → ClassId) (base : Nat) (w : zW) (a : Nat) (t0 : Int32) (days : Int32) (n : Nat) (fa : Nat) (k_a : zK w a = 3) (p207_a : zP w 207 a = some fa) (k_fa : zK w fa = 10) (n_fa : zN w fa = 50) (p210_a : zP w 210 a = none) (h8 : (zI w 208 a) = nI n) (hn50 : n ≤ 50) : vx_Met l yX2_enterOffence wsX2_enterOffence ({ frames := 6, cells := 2, slots := 10, locals := 90 }) (zPc D cy base (zH D cy base) [.ref a, .int t0, .int days] w) (zQi base (zH D cy base) (fun (r0 : Int32) (u0 : zW) => (((zI w 205 a) + (zI w 208 a)) < 50 ∧ ¬ (zI w 203 a) ≤ 0 ∧ ((∃ e9 : Nat, zK (zsI w 203 a ((zI w 203 a) - 1)) e9 = 0 ∧ u0 = (zsI (zsI (zsQ (zsI (zsI (zsI (zNew (zsI w 203 a ((zI w 203 a) - 1)) e9 1 0) 0 e9 t0) 1 e9 days) 2 e9 1) fa n (some e9)) 208 a ((zI w 208 a) + 1)) 209 a ((zI w 209 a) + days)))) ∧ r0 = (zI w 208 a) ∧ u0 = u0) ∨ (((zI w 205 a) + (zI w 208 a)) < 50 ∧ (zI w 203 a) ≤ 0 ∧ ((∃ e9 : Nat, zK w e9 = 0 ∧ u0 = (zsI (zsI (zsQ (zsI (zsI (zsI (zNew w e9 1 0) 0 e9 t0) 1 e9 days) 2 e9 0) fa n (some e9)) 208 a ((zI w 208 a) + 1)) 209 a ((zI w 209 a) + days)))) ∧ r0 = (zI w 208 a) ∧ u0 = u0))) (zXC base (zH D cy base) (fun (E : String) (u0 : zW) => (¬ (((zI w 205 a) + (zI w 208 a)) < 50 ∧ (zI w 208 a) < 50)) ∧ E = zIse ∧ u0 = w)) 2 10 (fun q => base ≤ q) := by
  refine vx_ofW (cc := cX2_enterOffence) (maxL := 5) (ret := (some .int)) (by decide) rfl ?_
  intro p e s m args below meth c s₁ B9 hml htab hv
  obtain ⟨rfl, hA, hH⟩ := hv
  have hx := B9.exec
  have hb := B9.bytes
  have hr := B9.returns
  have hts := atoms_spec (ws := wsX2_enterOffence) B9.pre
  have hown : s.vm.findClass RX2 = some m.cls := findClass_of_methodNamed B9.named
  have hlocks := B9.notSynchronized
  have hi0 : ∀ w ∈ wsX00, w ∈ wsX2_enterOffence := by decide +kernel
  have hi2 : ∀ w ∈ wsX20, w ∈ wsX2_enterOffence := by decide +kernel
  have hat_77 : ∀ w ∈ (vx_atS RX2 77 zIse zUp).filter goodWord, w ∈ wsX2_enterOffence := fun _ h => List.mem_cons_of_mem _ (List.mem_append_right _ h)
  have hS : va_S (fun q : Nat => base ≤ q) s.heap s.heap [] := va_S.rf
  have hl := lv_entry ([.ref a, .int t0, .int days]) (n := 5) (Nat.le_of_ble_eq_true rfl)
  rw [lg_entry_eq]
  generalize (lg_sl ([.ref a, .int t0, .int days]) ++ List.replicate (5 - (lg_sl ([.ref a, .int t0, .int days])).length) Slot.unset).toArray = ls at hl ⊢
  have hl : lv_has ls 5 [(0, .ref a), (1, .int t0), (2, .int days)] := hl
  refine lv_aload_n hx hb dX2_enterOffence_0 rfl (lv_at hl 0 rfl) ?_
  refine z_get (C := RX2) (T := TX2) (N := 14) (ci := 2) (index := 66) (v := .int (zI w 208 a)) hx hb hts hi2 hown hA hH (zk0 k_a (by decide)) (zE_k3 k_a) rfl 8 (by decide) (hts (.fieldLink RX2 66 "ParoleCards$Person" "offenceCount" "I") (by decide +kernel)) (fun _ h9 => h9) rfl dX2_enterOffence_1 ?_
  refine lv_istore_n (lv' := [(3, .int (zI w 208 a)), (0, .ref a), (1, .int t0), (2, .int days)]) hx hb dX2_enterOffence_4 rfl hl (by decide) rfl (fun ls hl => ?_)
  refine lv_aload_n hx hb dX2_enterOffence_5 rfl (lv_at hl 1 rfl) ?_
  refine z_calli (va_runV (As := []) (rest := []) ⟨hx, hb, hml, hown, hts⟩ (c2_hasRoom l D cy base w a k_a) (cwV 0 hts gX2_enterOffence_X2_hasRoomForPaper rfl rfl rfl (by decide +kernel) ⟨Nat.le_of_ble_eq_true rfl, Nat.le_of_ble_eq_true rfl⟩) (z_preV hA hS hH (z_recv hA hH (zk0 k_a (by decide)) (zE_k3 k_a) (q := (RX2, TX2, 14)) rfl)) rfl rfl hl.1 rfl (lv_room (Nat.le_of_ble_eq_true rfl)) dX2_enterOffence_6 ⟨Nat.le_of_ble_eq_true rfl, Nat.le_of_ble_eq_true rfl⟩) hS (fun r_k_1 u_k_1 H locs hw_k_1 hH hz_k_1 hS => ?_)
  rcases hw_k_1 with ⟨h_k_1_0, rfl, hu_k_1⟩ | ⟨h_k_1_0, rfl, hu_k_1⟩
  · rw [hu_k_1] at hH
    refine lv_if_eq (tgt := 25) hx hb dX2_enterOffence_9 (by decide) (fun c_2 => absurd c_2 (by decide)) (fun _ => ?_)
    refine lv_iload_n hx hb dX2_enterOffence_12 rfl (lv_at hl 0 rfl) ?_
    refine lv_if_lt (tgt := 25) hx hb dX2_enterOffence_13 (by decide) (fun c_3 => absurd c_3 (by rw [h8]; exact nI_pos (by omega))) (fun c_3 => ?_)
    refine lv_iload_n hx hb dX2_enterOffence_16 rfl (lv_at hl 0 rfl) ?_
    refine lv_aload_n hx hb dX2_enterOffence_17 rfl (lv_at hl 1 rfl) ?_
    refine z_get (C := RX2) (T := TX2) (N := 14) (ci := 2) (index := 17) (v := .ref fa) hx hb hts hi2 hown hA hH (zk0 k_a (by decide)) (zE_k3 k_a) rfl 7 (by decide) (hts (.fieldLink RX2 17 "ParoleCards$Person" "offences" "[LParoleCards$Offence;") (by decide +kernel)) (fun _ h9 => h9) (congrArg (fun z => some (va_rf z)) p207_a) dX2_enterOffence_18 ?_
    refine z_alen (v := 50) hx hb hA hH (zk0 k_fa (by decide)) (zE_k10 k_fa) 2 rfl (congrArg Int32.ofNat n_fa) dX2_enterOffence_21 ?_
    refine lv_icmp_lt (tgt := 35) hx hb dX2_enterOffence_22 (by decide) (fun c_4 => ?_) (fun c_4 => ?_)
    · refine lv_aload_n hx hb dX2_enterOffence_35 rfl (lv_at hl 1 rfl) ?_
      refine z_get (C := RX2) (T := TX2) (N := 14) (ci := 2) (index := 9) (v := .int (zI w 203 a)) hx hb hts hi2 hown hA hH (zk0 k_a (by decide)) (zE_k3 k_a) rfl 3 (by decide) (hts (.fieldLink RX2 9 "ParoleCards$Person" "regimeNow" "I") (by decide +kernel)) (fun _ h9 => h9) rfl dX2_enterOffence_36 ?_
      refine lv_if_le (tgt := 46) hx hb dX2_enterOffence_39 (by decide) (fun c_5 => ?_) (fun c_5 => ?_)
      · refine lv_iconst (v := 0) hx hb dX2_enterOffence_46 (by decide) ?_
        refine lv_istore (lv' := [(4, .int 0), (3, .int (zI w 208 a)), (0, .ref a), (1, .int t0), (2, .int days)]) hx hb dX2_enterOffence_47 hl (by decide) rfl (fun ls hl => ?_)
        refine lv_iload hx hb dX2_enterOffence_49 (lv_at hl 0 rfl) ?_
        refine lv_if_eq (tgt := 64) hx hb dX2_enterOffence_51 (by decide) (fun _ => ?_) (fun c_6 => absurd c_6 (by decide))
        refine lv_aload_n hx hb dX2_enterOffence_64 rfl (lv_at hl 2 rfl) ?_
        refine z_get (C := RX2) (T := TX2) (N := 14) (ci := 2) (index := 17) (v := .ref fa) hx hb hts hi2 hown hA hH (zk0 k_a (by decide)) (zE_k3 k_a) rfl 7 (by decide) (hts (.fieldLink RX2 17 "ParoleCards$Person" "offences" "[LParoleCards$Offence;") (by decide +kernel)) (fun _ h9 => h9) (congrArg (fun z => some (va_rf z)) p207_a) dX2_enterOffence_65 ?_
        refine lv_iload_n hx hb dX2_enterOffence_68 rfl (lv_at hl 1 rfl) ?_
        refine z_new (C := RX0) (T := TX0) (N := 4) (ci := 0) (k := 1) (index := 15) hx hb hts hi0 tyX0 tyX0_ok hown (hts (.classLink RX2 15 RX0) (by decide +kernel)) (hts (.instantiable RX0 4) (by decide +kernel)) (hts (.initialized RX0) (by decide +kernel)) hA hH hS rfl zdf_0 (fun q => znew_0 q) (Nat.le_of_ble_eq_true rfl) (Nat.le_of_ble_eq_true rfl) dX2_enterOffence_69 (fun e9 H hn_7 hH hS => ?_)
        have f_8 := ((zNew_old (k := 1) (n := 0) hn_7 (zk0 k_a (by decide))).2.1).trans k_a
        have f_9 := ((zNew_old (k := 1) (n := 0) hn_7 (zk0 k_a (by decide))).2.2.2.1 207).trans p207_a
        have f_10 := ((zNew_old (k := 1) (n := 0) hn_7 (zk0 k_fa (by decide))).2.1).trans k_fa
        have f_11 := ((zNew_old (k := 1) (n := 0) hn_7 (zk0 k_fa (by decide))).2.2.2.2.1).trans n_fa
        have f_12 := ((zNew_old (k := 1) (n := 0) hn_7 (zk0 k_a (by decide))).2.2.2.1 210).trans p210_a
        have f_13 := (zNew_new (w := w) (q := e9) (k := 1) (n := 0)).1
        refine lv_dup hx hb dX2_enterOffence_72 rfl ?_
        refine lv_iload_n hx hb dX2_enterOffence_73 rfl (lv_at hl 3 rfl) ?_
        refine lv_iload_n hx hb dX2_enterOffence_74 rfl (lv_at hl 4 rfl) ?_
        refine lv_iload hx hb dX2_enterOffence_75 (lv_at hl 0 rfl) ?_
        refine z_callv (va_runI (As := [.int t0, .int days, .int 0]) (rest := [.ref e9, .int (zI w 208 a), .ref fa]) ⟨hx, hb, hml, hown, hts⟩ (c0_init l D cy base (zNew w e9 1 0) e9 t0 days 0 f_13 rfl rfl) (cwI 3 hts gX2_enterOffence_X0_init rfl rfl rfl (hts (.initialized RX0) (by decide +kernel)) (hts (.methodLink RX2 83 yX0_init) (by decide +kernel)) (hts (.instanceMethod yX0_init) (by decide +kernel)) rfl (by decide +kernel) ⟨Nat.le_of_ble_eq_true rfl, Nat.le_of_ble_eq_true rfl⟩) (z_preS hA hS hH) rfl rfl hl.1 rfl (lv_room (Nat.le_of_ble_eq_true rfl)) dX2_enterOffence_77 ⟨Nat.le_of_ble_eq_true rfl, Nat.le_of_ble_eq_true rfl⟩) hS (fun u_k_14 H locs hw_k_14 hH hz_k_14 hS => ?_)
        have hu_k_14 := hw_k_14
        rw [hu_k_14] at hH
        refine z_aast (r := (RX0, TX0, 4)) (ci := 0) hx hb hA hH hS (zk0 f_10 (by decide)) (zEn (zE_k10 f_10) f_11) 2 rfl (zk0 f_13 (by decide)) (zE_k1 f_13) rfl n h8 (n50 h8 c_4 (hn := hn50)) (by decide) (w' := zsQ (zsI (zsI (zsI (zNew w e9 1 0) 0 e9 t0) 1 e9 days) 2 e9 0) fa n (some e9)) (zEn (zst_10 (w := (zsI (zsI (zsI (zNew w e9 1 0) 0 e9 t0) 1 e9 days) 2 e9 0)) f_10 _ _) f_11) (zsQ_oth (zsI (zsI (zsI (zNew w e9 1 0) 0 e9 t0) 1 e9 days) 2 e9 0) fa n _) (fun _ => rfl) dX2_enterOffence_80 (fun H locs hH hS => ?_)
        refine lv_aload_n hx hb dX2_enterOffence_81 rfl (lv_at hl 2 rfl) ?_
        refine lv_dup hx hb dX2_enterOffence_82 rfl ?_
        refine z_get (C := RX2) (T := TX2) (N := 14) (ci := 2) (index := 66) (v := .int (zI w 208 a)) hx hb hts hi2 hown hA hH (zk0 f_8 (by decide)) (zE_k3 f_8) rfl 8 (by decide) (hts (.fieldLink RX2 66 "ParoleCards$Person" "offenceCount" "I") (by decide +kernel)) (fun _ h9 => h9) (congrArg (fun z => some (Value.int z)) ((zNew_old (w := w) (q := e9) (k := 1) (n := 0) hn_7 (zk0 k_a (by decide))).2.2.1 208)) dX2_enterOffence_83 ?_
        refine lv_iconst (v := 1) hx hb dX2_enterOffence_86 (by decide) ?_
        refine lv_iadd hx hb dX2_enterOffence_87 ?_
        refine z_put (C := RX2) (T := TX2) (N := 14) (ci := 2) (index := 66) (v := .int ((zI w 208 a) + 1)) (ty := .int) hx hb hts hi2 tyX2 tyX2_ok nmX2 hown hA hH hS (zk0 f_8 (by decide)) (zE_k3 f_8) rfl 8 (by decide) (hts (.fieldLink RX2 66 "ParoleCards$Person" "offenceCount" "I") (by decide +kernel)) (fun _ h9 => h9) rfl (by decide +kernel) rfl rfl (Nat.le_of_ble_eq_true rfl) (w' := zsI (zsQ (zsI (zsI (zsI (zNew w e9 1 0) 0 e9 t0) 1 e9 days) 2 e9 0) fa n (some e9)) 208 a ((zI w 208 a) + 1)) (zs_208 (w := (zsQ (zsI (zsI (zsI (zNew w e9 1 0) 0 e9 t0) 1 e9 days) 2 e9 0) fa n (some e9))) f_8 _) (zsI_oth (zsQ (zsI (zsI (zsI (zNew w e9 1 0) 0 e9 t0) 1 e9 days) 2 e9 0) fa n (some e9)) 208 a _) (fun _ => rfl) dX2_enterOffence_88 (fun H locs hH hS => ?_)
        refine lv_aload_n hx hb dX2_enterOffence_91 rfl (lv_at hl 2 rfl) ?_
        refine lv_dup hx hb dX2_enterOffence_92 rfl ?_
        refine z_get (C := RX2) (T := TX2) (N := 14) (ci := 2) (index := 60) (v := .int (zI w 209 a)) hx hb hts hi2 hown hA hH (zk0 f_8 (by decide)) (zE_k3 f_8) rfl 9 (by decide) (hts (.fieldLink RX2 60 "ParoleCards$Person" "lostDays" "I") (by decide +kernel)) (fun _ h9 => h9) (congrArg (fun z => some (Value.int z)) ((zNew_old (w := w) (q := e9) (k := 1) (n := 0) hn_7 (zk0 k_a (by decide))).2.2.1 209)) dX2_enterOffence_93 ?_
        refine lv_iload_n hx hb dX2_enterOffence_96 rfl (lv_at hl 4 rfl) ?_
        refine lv_iadd hx hb dX2_enterOffence_97 ?_
        refine z_put (C := RX2) (T := TX2) (N := 14) (ci := 2) (index := 60) (v := .int ((zI w 209 a) + days)) (ty := .int) hx hb hts hi2 tyX2 tyX2_ok nmX2 hown hA hH hS (zk0 f_8 (by decide)) (zE_k3 f_8) rfl 9 (by decide) (hts (.fieldLink RX2 60 "ParoleCards$Person" "lostDays" "I") (by decide +kernel)) (fun _ h9 => h9) rfl (by decide +kernel) rfl rfl (Nat.le_of_ble_eq_true rfl) (w' := zsI (zsI (zsQ (zsI (zsI (zsI (zNew w e9 1 0) 0 e9 t0) 1 e9 days) 2 e9 0) fa n (some e9)) 208 a ((zI w 208 a) + 1)) 209 a ((zI w 209 a) + days)) (zs_209 (w := (zsI (zsQ (zsI (zsI (zsI (zNew w e9 1 0) 0 e9 t0) 1 e9 days) 2 e9 0) fa n (some e9)) 208 a ((zI w 208 a) + 1))) f_8 _) (zsI_oth (zsI (zsQ (zsI (zsI (zsI (zNew w e9 1 0) 0 e9 t0) 1 e9 days) 2 e9 0) fa n (some e9)) 208 a ((zI w 208 a) + 1)) 209 a _) (fun _ => rfl) dX2_enterOffence_98 (fun H locs hH hS => ?_)
        refine lv_aload_n hx hb dX2_enterOffence_101 rfl (lv_at hl 2 rfl) ?_
        refine z_callv (va_runV (As := []) (rest := []) ⟨hx, hb, hml, hown, hts⟩ (c2_leaveOrder_n l D cy base (zsI (zsI (zsQ (zsI (zsI (zsI (zNew w e9 1 0) 0 e9 t0) 1 e9 days) 2 e9 0) fa n (some e9)) 208 a ((zI w 208 a) + 1)) 209 a ((zI w 209 a) + days)) a f_8 f_12) (cwV 0 hts gX2_enterOffence_X2_leaveOrder rfl rfl rfl (by decide +kernel) ⟨Nat.le_of_ble_eq_true rfl, Nat.le_of_ble_eq_true rfl⟩) (z_preV hA hS hH (z_recv hA hH (zk0 f_8 (by decide)) (zE_k3 f_8) (q := (RX2, TX2, 14)) rfl)) rfl rfl hl.1 rfl (lv_room (Nat.le_of_ble_eq_true rfl)) dX2_enterOffence_102 ⟨Nat.le_of_ble_eq_true rfl, Nat.le_of_ble_eq_true rfl⟩) hS (fun u_k_15 H locs hw_k_15 hH hz_k_15 hS => ?_)
        have hu_k_15 := hw_k_15
        rw [hu_k_15] at hH
        refine lv_iload_n hx hb dX2_enterOffence_105 rfl (lv_at hl 1 rfl) ?_
        refine vx_ret ?_
        exact z_iret hx hb hr hlocks hH hS (Or.inr ⟨h_k_1_0, c_5, ⟨e9, hn_7, rfl⟩, rfl, rfl⟩) (by decide) (by decide) dX2_enterOffence_106
      · refine lv_iconst (v := 1) hx hb dX2_enterOffence_42 (by decide) ?_
        refine lv_goto (tgt := 47) hx hb dX2_enterOffence_43 (by decide) ?_
        refine lv_istore (lv' := [(4, .int 1), (3, .int (zI w 208 a)), (0, .ref a), (1, .int t0), (2, .int days)]) hx hb dX2_enterOffence_47 hl (by decide) rfl (fun ls hl => ?_)
        refine lv_iload hx hb dX2_enterOffence_49 (lv_at hl 0 rfl) ?_
        refine lv_if_eq (tgt := 64) hx hb dX2_enterOffence_51 (by decide) (fun c_16 => absurd c_16 (by decide)) (fun _ => ?_)
        refine lv_aload_n hx hb dX2_enterOffence_54 rfl (lv_at hl 2 rfl) ?_
        refine lv_dup hx hb dX2_enterOffence_55 rfl ?_
        refine z_get (C := RX2) (T := TX2) (N := 14) (ci := 2) (index := 9) (v := .int (zI w 203 a)) hx hb hts hi2 hown hA hH (zk0 k_a (by decide)) (zE_k3 k_a) rfl 3 (by decide) (hts (.fieldLink RX2 9 "ParoleCards$Person" "regimeNow" "I") (by decide +kernel)) (fun _ h9 => h9) rfl dX2_enterOffence_56 ?_
        refine lv_iconst (v := 1) hx hb dX2_enterOffence_59 (by decide) ?_
        refine lv_isub hx hb dX2_enterOffence_60 ?_
        refine z_put (C := RX2) (T := TX2) (N := 14) (ci := 2) (index := 9) (v := .int ((zI w 203 a) - 1)) (ty := .int) hx hb hts hi2 tyX2 tyX2_ok nmX2 hown hA hH hS (zk0 k_a (by decide)) (zE_k3 k_a) rfl 3 (by decide) (hts (.fieldLink RX2 9 "ParoleCards$Person" "regimeNow" "I") (by decide +kernel)) (fun _ h9 => h9) rfl (by decide +kernel) rfl rfl (Nat.le_of_ble_eq_true rfl) (w' := zsI w 203 a ((zI w 203 a) - 1)) (zs_203 (w := w) k_a _) (zsI_oth w 203 a _) (fun _ => rfl) dX2_enterOffence_61 (fun H locs hH hS => ?_)
        refine lv_aload_n hx hb dX2_enterOffence_64 rfl (lv_at hl 2 rfl) ?_
        refine z_get (C := RX2) (T := TX2) (N := 14) (ci := 2) (index := 17) (v := .ref fa) hx hb hts hi2 hown hA hH (zk0 k_a (by decide)) (zE_k3 k_a) rfl 7 (by decide) (hts (.fieldLink RX2 17 "ParoleCards$Person" "offences" "[LParoleCards$Offence;") (by decide +kernel)) (fun _ h9 => h9) (congrArg (fun z => some (va_rf z)) p207_a) dX2_enterOffence_65 ?_
        refine lv_iload_n hx hb dX2_enterOffence_68 rfl (lv_at hl 1 rfl) ?_
        refine z_new (C := RX0) (T := TX0) (N := 4) (ci := 0) (k := 1) (index := 15) hx hb hts hi0 tyX0 tyX0_ok hown (hts (.classLink RX2 15 RX0) (by decide +kernel)) (hts (.instantiable RX0 4) (by decide +kernel)) (hts (.initialized RX0) (by decide +kernel)) hA hH hS rfl zdf_0 (fun q => znew_0 q) (Nat.le_of_ble_eq_true rfl) (Nat.le_of_ble_eq_true rfl) dX2_enterOffence_69 (fun e9 H hn_17 hH hS => ?_)
        have f_18 := ((zNew_old (k := 1) (n := 0) hn_17 (zk0 k_a (by decide))).2.1).trans k_a
        have f_19 := ((zNew_old (k := 1) (n := 0) hn_17 (zk0 k_a (by decide))).2.2.2.1 207).trans p207_a
        have f_20 := ((zNew_old (k := 1) (n := 0) hn_17 (zk0 k_fa (by decide))).2.1).trans k_fa
        have f_21 := ((zNew_old (k := 1) (n := 0) hn_17 (zk0 k_fa (by decide))).2.2.2.2.1).trans n_fa
        have f_22 := ((zNew_old (k := 1) (n := 0) hn_17 (zk0 k_a (by decide))).2.2.2.1 210).trans p210_a
        have f_23 := (zNew_new (w := (zsI w 203 a ((zI w 203 a) - 1))) (q := e9) (k := 1) (n := 0)).1
        refine lv_dup hx hb dX2_enterOffence_72 rfl ?_
        refine lv_iload_n hx hb dX2_enterOffence_73 rfl (lv_at hl 3 rfl) ?_
        refine lv_iload_n hx hb dX2_enterOffence_74 rfl (lv_at hl 4 rfl) ?_
        refine lv_iload hx hb dX2_enterOffence_75 (lv_at hl 0 rfl) ?_
        refine z_callv (va_runI (As := [.int t0, .int days, .int 1]) (rest := [.ref e9, .int (zI w 208 a), .ref fa]) ⟨hx, hb, hml, hown, hts⟩ (c0_init l D cy base (zNew (zsI w 203 a ((zI w 203 a) - 1)) e9 1 0) e9 t0 days 1 f_23 rfl rfl) (cwI 3 hts gX2_enterOffence_X0_init rfl rfl rfl (hts (.initialized RX0) (by decide +kernel)) (hts (.methodLink RX2 83 yX0_init) (by decide +kernel)) (hts (.instanceMethod yX0_init) (by decide +kernel)) rfl (by decide +kernel) ⟨Nat.le_of_ble_eq_true rfl, Nat.le_of_ble_eq_true rfl⟩) (z_preS hA hS hH) rfl rfl hl.1 rfl (lv_room (Nat.le_of_ble_eq_true rfl)) dX2_enterOffence_77 ⟨Nat.le_of_ble_eq_true rfl, Nat.le_of_ble_eq_true rfl⟩) hS (fun u_k_24 H locs hw_k_24 hH hz_k_24 hS => ?_)
        have hu_k_24 := hw_k_24
        rw [hu_k_24] at hH
        refine z_aast (r := (RX0, TX0, 4)) (ci := 0) hx hb hA hH hS (zk0 f_20 (by decide)) (zEn (zE_k10 f_20) f_21) 2 rfl (zk0 f_23 (by decide)) (zE_k1 f_23) rfl n h8 (n50 h8 c_4 (hn := hn50)) (by decide) (w' := zsQ (zsI (zsI (zsI (zNew (zsI w 203 a ((zI w 203 a) - 1)) e9 1 0) 0 e9 t0) 1 e9 days) 2 e9 1) fa n (some e9)) (zEn (zst_10 (w := (zsI (zsI (zsI (zNew (zsI w 203 a ((zI w 203 a) - 1)) e9 1 0) 0 e9 t0) 1 e9 days) 2 e9 1)) f_20 _ _) f_21) (zsQ_oth (zsI (zsI (zsI (zNew (zsI w 203 a ((zI w 203 a) - 1)) e9 1 0) 0 e9 t0) 1 e9 days) 2 e9 1) fa n _) (fun _ => rfl) dX2_enterOffence_80 (fun H locs hH hS => ?_)
        refine lv_aload_n hx hb dX2_enterOffence_81 rfl (lv_at hl 2 rfl) ?_
        refine lv_dup hx hb dX2_enterOffence_82 rfl ?_
        refine z_get (C := RX2) (T := TX2) (N := 14) (ci := 2) (index := 66) (v := .int (zI w 208 a)) hx hb hts hi2 hown hA hH (zk0 f_18 (by decide)) (zE_k3 f_18) rfl 8 (by decide) (hts (.fieldLink RX2 66 "ParoleCards$Person" "offenceCount" "I") (by decide +kernel)) (fun _ h9 => h9) (congrArg (fun z => some (Value.int z)) ((zNew_old (w := (zsI w 203 a ((zI w 203 a) - 1))) (q := e9) (k := 1) (n := 0) hn_17 (zk0 k_a (by decide))).2.2.1 208)) dX2_enterOffence_83 ?_
        refine lv_iconst (v := 1) hx hb dX2_enterOffence_86 (by decide) ?_
        refine lv_iadd hx hb dX2_enterOffence_87 ?_
        refine z_put (C := RX2) (T := TX2) (N := 14) (ci := 2) (index := 66) (v := .int ((zI w 208 a) + 1)) (ty := .int) hx hb hts hi2 tyX2 tyX2_ok nmX2 hown hA hH hS (zk0 f_18 (by decide)) (zE_k3 f_18) rfl 8 (by decide) (hts (.fieldLink RX2 66 "ParoleCards$Person" "offenceCount" "I") (by decide +kernel)) (fun _ h9 => h9) rfl (by decide +kernel) rfl rfl (Nat.le_of_ble_eq_true rfl) (w' := zsI (zsQ (zsI (zsI (zsI (zNew (zsI w 203 a ((zI w 203 a) - 1)) e9 1 0) 0 e9 t0) 1 e9 days) 2 e9 1) fa n (some e9)) 208 a ((zI w 208 a) + 1)) (zs_208 (w := (zsQ (zsI (zsI (zsI (zNew (zsI w 203 a ((zI w 203 a) - 1)) e9 1 0) 0 e9 t0) 1 e9 days) 2 e9 1) fa n (some e9))) f_18 _) (zsI_oth (zsQ (zsI (zsI (zsI (zNew (zsI w 203 a ((zI w 203 a) - 1)) e9 1 0) 0 e9 t0) 1 e9 days) 2 e9 1) fa n (some e9)) 208 a _) (fun _ => rfl) dX2_enterOffence_88 (fun H locs hH hS => ?_)
        refine lv_aload_n hx hb dX2_enterOffence_91 rfl (lv_at hl 2 rfl) ?_
        refine lv_dup hx hb dX2_enterOffence_92 rfl ?_
        refine z_get (C := RX2) (T := TX2) (N := 14) (ci := 2) (index := 60) (v := .int (zI w 209 a)) hx hb hts hi2 hown hA hH (zk0 f_18 (by decide)) (zE_k3 f_18) rfl 9 (by decide) (hts (.fieldLink RX2 60 "ParoleCards$Person" "lostDays" "I") (by decide +kernel)) (fun _ h9 => h9) (congrArg (fun z => some (Value.int z)) ((zNew_old (w := (zsI w 203 a ((zI w 203 a) - 1))) (q := e9) (k := 1) (n := 0) hn_17 (zk0 k_a (by decide))).2.2.1 209)) dX2_enterOffence_93 ?_
        refine lv_iload_n hx hb dX2_enterOffence_96 rfl (lv_at hl 4 rfl) ?_
        refine lv_iadd hx hb dX2_enterOffence_97 ?_
        refine z_put (C := RX2) (T := TX2) (N := 14) (ci := 2) (index := 60) (v := .int ((zI w 209 a) + days)) (ty := .int) hx hb hts hi2 tyX2 tyX2_ok nmX2 hown hA hH hS (zk0 f_18 (by decide)) (zE_k3 f_18) rfl 9 (by decide) (hts (.fieldLink RX2 60 "ParoleCards$Person" "lostDays" "I") (by decide +kernel)) (fun _ h9 => h9) rfl (by decide +kernel) rfl rfl (Nat.le_of_ble_eq_true rfl) (w' := zsI (zsI (zsQ (zsI (zsI (zsI (zNew (zsI w 203 a ((zI w 203 a) - 1)) e9 1 0) 0 e9 t0) 1 e9 days) 2 e9 1) fa n (some e9)) 208 a ((zI w 208 a) + 1)) 209 a ((zI w 209 a) + days)) (zs_209 (w := (zsI (zsQ (zsI (zsI (zsI (zNew (zsI w 203 a ((zI w 203 a) - 1)) e9 1 0) 0 e9 t0) 1 e9 days) 2 e9 1) fa n (some e9)) 208 a ((zI w 208 a) + 1))) f_18 _) (zsI_oth (zsI (zsQ (zsI (zsI (zsI (zNew (zsI w 203 a ((zI w 203 a) - 1)) e9 1 0) 0 e9 t0) 1 e9 days) 2 e9 1) fa n (some e9)) 208 a ((zI w 208 a) + 1)) 209 a _) (fun _ => rfl) dX2_enterOffence_98 (fun H locs hH hS => ?_)
        refine lv_aload_n hx hb dX2_enterOffence_101 rfl (lv_at hl 2 rfl) ?_
        refine z_callv (va_runV (As := []) (rest := []) ⟨hx, hb, hml, hown, hts⟩ (c2_leaveOrder_n l D cy base (zsI (zsI (zsQ (zsI (zsI (zsI (zNew (zsI w 203 a ((zI w 203 a) - 1)) e9 1 0) 0 e9 t0) 1 e9 days) 2 e9 1) fa n (some e9)) 208 a ((zI w 208 a) + 1)) 209 a ((zI w 209 a) + days)) a f_18 f_22) (cwV 0 hts gX2_enterOffence_X2_leaveOrder rfl rfl rfl (by decide +kernel) ⟨Nat.le_of_ble_eq_true rfl, Nat.le_of_ble_eq_true rfl⟩) (z_preV hA hS hH (z_recv hA hH (zk0 f_18 (by decide)) (zE_k3 f_18) (q := (RX2, TX2, 14)) rfl)) rfl rfl hl.1 rfl (lv_room (Nat.le_of_ble_eq_true rfl)) dX2_enterOffence_102 ⟨Nat.le_of_ble_eq_true rfl, Nat.le_of_ble_eq_true rfl⟩) hS (fun u_k_25 H locs hw_k_25 hH hz_k_25 hS => ?_)
        have hu_k_25 := hw_k_25
        rw [hu_k_25] at hH
        refine lv_iload_n hx hb dX2_enterOffence_105 rfl (lv_at hl 1 rfl) ?_
        refine vx_ret ?_
        exact z_iret hx hb hr hlocks hH hS (Or.inl ⟨h_k_1_0, c_5, ⟨e9, hn_17, rfl⟩, rfl, rfl⟩) (by decide) (by decide) dX2_enterOffence_106
    · exact z_throwS (cls := zIse) (text := "the person has no room for another paper") (is := 75) (ic := 77) (ik := 73) hx hb hl9 hown (by decide +kernel) (hts (.classLink RX2 73 "java/lang/IllegalStateException") (by decide +kernel)) (hts (.initialized "java/lang/IllegalStateException") (by decide +kernel)) hA (by decide +kernel) (fun w9 h9 => hts w9 (hat_77 w9 h9)) (by decide +kernel) (by decide +kernel) hH hS (hl.1.trans hml.symm) dX2_enterOffence_25 dX2_enterOffence_28 dX2_enterOffence_29 dX2_enterOffence_31 dX2_enterOffence_34 htab (Nat.le_of_ble_eq_true rfl) (Nat.le_of_ble_eq_true rfl) (Nat.le_of_ble_eq_true rfl) (Nat.le_of_ble_eq_true rfl) hlocks (by refine ⟨?_, rfl, rfl⟩; intro h9; first | exact absurd h9.1 (by assumption) | exact absurd h9.2 (by assumption)) (by decide) (by decide)
  · rw [hu_k_1] at hH
    refine lv_if_eq (tgt := 25) hx hb dX2_enterOffence_9 (by decide) (fun _ => ?_) (fun c_26 => absurd c_26 (by decide))
    exact z_throwS (cls := zIse) (text := "the person has no room for another paper") (is := 75) (ic := 77) (ik := 73) hx hb hl9 hown (by decide +kernel) (hts (.classLink RX2 73 "java/lang/IllegalStateException") (by decide +kernel)) (hts (.initialized "java/lang/IllegalStateException") (by decide +kernel)) hA (by decide +kernel) (fun w9 h9 => hts w9 (hat_77 w9 h9)) (by decide +kernel) (by decide +kernel) hH hS (hl.1.trans hml.symm) dX2_enterOffence_25 dX2_enterOffence_28 dX2_enterOffence_29 dX2_enterOffence_31 dX2_enterOffence_34 htab (Nat.le_of_ble_eq_true rfl) (Nat.le_of_ble_eq_true rfl) (Nat.le_of_ble_eq_true rfl) (Nat.le_of_ble_eq_true rfl) hlocks (by refine ⟨?_, rfl, rfl⟩; intro h9; first | exact absurd h9.1 (by assumption) | exact absurd h9.2 (by assumption)) (by decide) (by decide)
set_option maxHeartbeats 4000000 in
set_option maxRecDepth 100000 in
theorem c2_enterOffence_s (l : Launch) (hl9 : l.stackTraces = false) (D : va_G) (cy : Nat → ClassId) (base : Nat) (w : zW) (a : Nat) (t0 : Int32) (days : Int32) (n : Nat) (fa : Nat) (o : Nat) (t : Nat) (k_a : zK w a = 3) (p207_a : zP w 207 a = some fa) (k_fa : zK w fa = 10) (n_fa : zN w fa = 50) (p210_a : zP w 210 a = some o) (k_o : zK w o = 2) (p102_o : zP w 102 o = some t) (k_t : zK w t = 5) (h8 : (zI w 208 a) = nI n) (hn50 : n ≤ 50) : vx_Met l yX2_enterOffence wsX2_enterOffence ({ frames := 6, cells := 2, slots := 10, locals := 90 }) (zPc D cy base (zH D cy base) [.ref a, .int t0, .int days] w) (zQi base (zH D cy base) (fun (r0 : Int32) (u0 : zW) => (((zI w 205 a) + (zI w 208 a)) < 50 ∧ ¬ (zI w 203 a) ≤ 0 ∧ ((∃ e9 : Nat, zK (zsI w 203 a ((zI w 203 a) - 1)) e9 = 0 ∧ u0 = (zsP (zsI (zsI (zsI (zsI (zsQ (zsI (zsI (zsI (zNew (zsI w 203 a ((zI w 203 a) - 1)) e9 1 0) 0 e9 t0) 1 e9 days) 2 e9 1) fa n (some e9)) 208 a ((zI w 208 a) + 1)) 209 a ((zI w 209 a) + days)) 105 o ((zI w 105 o) - 1)) 401 t ((zI w 401 t) - 1)) 210 a none))) ∧ r0 = (zI w 208 a) ∧ u0 = u0) ∨ (((zI w 205 a) + (zI w 208 a)) < 50 ∧ (zI w 203 a) ≤ 0 ∧ ((∃ e9 : Nat, zK w e9 = 0 ∧ u0 = (zsP (zsI (zsI (zsI (zsI (zsQ (zsI (zsI (zsI (zNew w e9 1 0) 0 e9 t0) 1 e9 days) 2 e9 0) fa n (some e9)) 208 a ((zI w 208 a) + 1)) 209 a ((zI w 209 a) + days)) 105 o ((zI w 105 o) - 1)) 401 t ((zI w 401 t) - 1)) 210 a none))) ∧ r0 = (zI w 208 a) ∧ u0 = u0))) (zXC base (zH D cy base) (fun (E : String) (u0 : zW) => (¬ (((zI w 205 a) + (zI w 208 a)) < 50 ∧ (zI w 208 a) < 50)) ∧ E = zIse ∧ u0 = w)) 2 10 (fun q => base ≤ q) := by
  refine vx_ofW (cc := cX2_enterOffence) (maxL := 5) (ret := (some .int)) (by decide) rfl ?_
  intro p e s m args below meth c s₁ B9 hml htab hv
  obtain ⟨rfl, hA, hH⟩ := hv
  have hx := B9.exec
  have hb := B9.bytes
  have hr := B9.returns
  have hts := atoms_spec (ws := wsX2_enterOffence) B9.pre
  have hown : s.vm.findClass RX2 = some m.cls := findClass_of_methodNamed B9.named
  have hlocks := B9.notSynchronized
  have hi0 : ∀ w ∈ wsX00, w ∈ wsX2_enterOffence := by decide +kernel
  have hi2 : ∀ w ∈ wsX20, w ∈ wsX2_enterOffence := by decide +kernel
  have hat_77 : ∀ w ∈ (vx_atS RX2 77 zIse zUp).filter goodWord, w ∈ wsX2_enterOffence := fun _ h => List.mem_cons_of_mem _ (List.mem_append_right _ h)
  have hS : va_S (fun q : Nat => base ≤ q) s.heap s.heap [] := va_S.rf
  have hl := lv_entry ([.ref a, .int t0, .int days]) (n := 5) (Nat.le_of_ble_eq_true rfl)
  rw [lg_entry_eq]
  generalize (lg_sl ([.ref a, .int t0, .int days]) ++ List.replicate (5 - (lg_sl ([.ref a, .int t0, .int days])).length) Slot.unset).toArray = ls at hl ⊢
  have hl : lv_has ls 5 [(0, .ref a), (1, .int t0), (2, .int days)] := hl
  refine lv_aload_n hx hb dX2_enterOffence_0 rfl (lv_at hl 0 rfl) ?_
  refine z_get (C := RX2) (T := TX2) (N := 14) (ci := 2) (index := 66) (v := .int (zI w 208 a)) hx hb hts hi2 hown hA hH (zk0 k_a (by decide)) (zE_k3 k_a) rfl 8 (by decide) (hts (.fieldLink RX2 66 "ParoleCards$Person" "offenceCount" "I") (by decide +kernel)) (fun _ h9 => h9) rfl dX2_enterOffence_1 ?_
  refine lv_istore_n (lv' := [(3, .int (zI w 208 a)), (0, .ref a), (1, .int t0), (2, .int days)]) hx hb dX2_enterOffence_4 rfl hl (by decide) rfl (fun ls hl => ?_)
  refine lv_aload_n hx hb dX2_enterOffence_5 rfl (lv_at hl 1 rfl) ?_
  refine z_calli (va_runV (As := []) (rest := []) ⟨hx, hb, hml, hown, hts⟩ (c2_hasRoom l D cy base w a k_a) (cwV 0 hts gX2_enterOffence_X2_hasRoomForPaper rfl rfl rfl (by decide +kernel) ⟨Nat.le_of_ble_eq_true rfl, Nat.le_of_ble_eq_true rfl⟩) (z_preV hA hS hH (z_recv hA hH (zk0 k_a (by decide)) (zE_k3 k_a) (q := (RX2, TX2, 14)) rfl)) rfl rfl hl.1 rfl (lv_room (Nat.le_of_ble_eq_true rfl)) dX2_enterOffence_6 ⟨Nat.le_of_ble_eq_true rfl, Nat.le_of_ble_eq_true rfl⟩) hS (fun r_k_1 u_k_1 H locs hw_k_1 hH hz_k_1 hS => ?_)
  rcases hw_k_1 with ⟨h_k_1_0, rfl, hu_k_1⟩ | ⟨h_k_1_0, rfl, hu_k_1⟩
  · rw [hu_k_1] at hH
    refine lv_if_eq (tgt := 25) hx hb dX2_enterOffence_9 (by decide) (fun c_2 => absurd c_2 (by decide)) (fun _ => ?_)
    refine lv_iload_n hx hb dX2_enterOffence_12 rfl (lv_at hl 0 rfl) ?_
    refine lv_if_lt (tgt := 25) hx hb dX2_enterOffence_13 (by decide) (fun c_3 => absurd c_3 (by rw [h8]; exact nI_pos (by omega))) (fun c_3 => ?_)
    refine lv_iload_n hx hb dX2_enterOffence_16 rfl (lv_at hl 0 rfl) ?_
    refine lv_aload_n hx hb dX2_enterOffence_17 rfl (lv_at hl 1 rfl) ?_
    refine z_get (C := RX2) (T := TX2) (N := 14) (ci := 2) (index := 17) (v := .ref fa) hx hb hts hi2 hown hA hH (zk0 k_a (by decide)) (zE_k3 k_a) rfl 7 (by decide) (hts (.fieldLink RX2 17 "ParoleCards$Person" "offences" "[LParoleCards$Offence;") (by decide +kernel)) (fun _ h9 => h9) (congrArg (fun z => some (va_rf z)) p207_a) dX2_enterOffence_18 ?_
    refine z_alen (v := 50) hx hb hA hH (zk0 k_fa (by decide)) (zE_k10 k_fa) 2 rfl (congrArg Int32.ofNat n_fa) dX2_enterOffence_21 ?_
    refine lv_icmp_lt (tgt := 35) hx hb dX2_enterOffence_22 (by decide) (fun c_4 => ?_) (fun c_4 => ?_)
    · refine lv_aload_n hx hb dX2_enterOffence_35 rfl (lv_at hl 1 rfl) ?_
      refine z_get (C := RX2) (T := TX2) (N := 14) (ci := 2) (index := 9) (v := .int (zI w 203 a)) hx hb hts hi2 hown hA hH (zk0 k_a (by decide)) (zE_k3 k_a) rfl 3 (by decide) (hts (.fieldLink RX2 9 "ParoleCards$Person" "regimeNow" "I") (by decide +kernel)) (fun _ h9 => h9) rfl dX2_enterOffence_36 ?_
      refine lv_if_le (tgt := 46) hx hb dX2_enterOffence_39 (by decide) (fun c_5 => ?_) (fun c_5 => ?_)
      · refine lv_iconst (v := 0) hx hb dX2_enterOffence_46 (by decide) ?_
        refine lv_istore (lv' := [(4, .int 0), (3, .int (zI w 208 a)), (0, .ref a), (1, .int t0), (2, .int days)]) hx hb dX2_enterOffence_47 hl (by decide) rfl (fun ls hl => ?_)
        refine lv_iload hx hb dX2_enterOffence_49 (lv_at hl 0 rfl) ?_
        refine lv_if_eq (tgt := 64) hx hb dX2_enterOffence_51 (by decide) (fun _ => ?_) (fun c_6 => absurd c_6 (by decide))
        refine lv_aload_n hx hb dX2_enterOffence_64 rfl (lv_at hl 2 rfl) ?_
        refine z_get (C := RX2) (T := TX2) (N := 14) (ci := 2) (index := 17) (v := .ref fa) hx hb hts hi2 hown hA hH (zk0 k_a (by decide)) (zE_k3 k_a) rfl 7 (by decide) (hts (.fieldLink RX2 17 "ParoleCards$Person" "offences" "[LParoleCards$Offence;") (by decide +kernel)) (fun _ h9 => h9) (congrArg (fun z => some (va_rf z)) p207_a) dX2_enterOffence_65 ?_
        refine lv_iload_n hx hb dX2_enterOffence_68 rfl (lv_at hl 1 rfl) ?_
        refine z_new (C := RX0) (T := TX0) (N := 4) (ci := 0) (k := 1) (index := 15) hx hb hts hi0 tyX0 tyX0_ok hown (hts (.classLink RX2 15 RX0) (by decide +kernel)) (hts (.instantiable RX0 4) (by decide +kernel)) (hts (.initialized RX0) (by decide +kernel)) hA hH hS rfl zdf_0 (fun q => znew_0 q) (Nat.le_of_ble_eq_true rfl) (Nat.le_of_ble_eq_true rfl) dX2_enterOffence_69 (fun e9 H hn_7 hH hS => ?_)
        have f_8 := ((zNew_old (k := 1) (n := 0) hn_7 (zk0 k_a (by decide))).2.1).trans k_a
        have f_9 := ((zNew_old (k := 1) (n := 0) hn_7 (zk0 k_a (by decide))).2.2.2.1 207).trans p207_a
        have f_10 := ((zNew_old (k := 1) (n := 0) hn_7 (zk0 k_fa (by decide))).2.1).trans k_fa
        have f_11 := ((zNew_old (k := 1) (n := 0) hn_7 (zk0 k_fa (by decide))).2.2.2.2.1).trans n_fa
        have f_12 := ((zNew_old (k := 1) (n := 0) hn_7 (zk0 k_a (by decide))).2.2.2.1 210).trans p210_a
        have f_13 := ((zNew_old (k := 1) (n := 0) hn_7 (zk0 k_o (by decide))).2.1).trans k_o
        have f_14 := ((zNew_old (k := 1) (n := 0) hn_7 (zk0 k_o (by decide))).2.2.2.1 102).trans p102_o
        have f_15 := ((zNew_old (k := 1) (n := 0) hn_7 (zk0 k_t (by decide))).2.1).trans k_t
        have f_16 := (zNew_new (w := w) (q := e9) (k := 1) (n := 0)).1
        refine lv_dup hx hb dX2_enterOffence_72 rfl ?_
        refine lv_iload_n hx hb dX2_enterOffence_73 rfl (lv_at hl 3 rfl) ?_
        refine lv_iload_n hx hb dX2_enterOffence_74 rfl (lv_at hl 4 rfl) ?_
        refine lv_iload hx hb dX2_enterOffence_75 (lv_at hl 0 rfl) ?_
        refine z_callv (va_runI (As := [.int t0, .int days, .int 0]) (rest := [.ref e9, .int (zI w 208 a), .ref fa]) ⟨hx, hb, hml, hown, hts⟩ (c0_init l D cy base (zNew w e9 1 0) e9 t0 days 0 f_16 rfl rfl) (cwI 3 hts gX2_enterOffence_X0_init rfl rfl rfl (hts (.initialized RX0) (by decide +kernel)) (hts (.methodLink RX2 83 yX0_init) (by decide +kernel)) (hts (.instanceMethod yX0_init) (by decide +kernel)) rfl (by decide +kernel) ⟨Nat.le_of_ble_eq_true rfl, Nat.le_of_ble_eq_true rfl⟩) (z_preS hA hS hH) rfl rfl hl.1 rfl (lv_room (Nat.le_of_ble_eq_true rfl)) dX2_enterOffence_77 ⟨Nat.le_of_ble_eq_true rfl, Nat.le_of_ble_eq_true rfl⟩) hS (fun u_k_17 H locs hw_k_17 hH hz_k_17 hS => ?_)
        have hu_k_17 := hw_k_17
        rw [hu_k_17] at hH
        refine z_aast (r := (RX0, TX0, 4)) (ci := 0) hx hb hA hH hS (zk0 f_10 (by decide)) (zEn (zE_k10 f_10) f_11) 2 rfl (zk0 f_16 (by decide)) (zE_k1 f_16) rfl n h8 (n50 h8 c_4 (hn := hn50)) (by decide) (w' := zsQ (zsI (zsI (zsI (zNew w e9 1 0) 0 e9 t0) 1 e9 days) 2 e9 0) fa n (some e9)) (zEn (zst_10 (w := (zsI (zsI (zsI (zNew w e9 1 0) 0 e9 t0) 1 e9 days) 2 e9 0)) f_10 _ _) f_11) (zsQ_oth (zsI (zsI (zsI (zNew w e9 1 0) 0 e9 t0) 1 e9 days) 2 e9 0) fa n _) (fun _ => rfl) dX2_enterOffence_80 (fun H locs hH hS => ?_)
        refine lv_aload_n hx hb dX2_enterOffence_81 rfl (lv_at hl 2 rfl) ?_
        refine lv_dup hx hb dX2_enterOffence_82 rfl ?_
        refine z_get (C := RX2) (T := TX2) (N := 14) (ci := 2) (index := 66) (v := .int (zI w 208 a)) hx hb hts hi2 hown hA hH (zk0 f_8 (by decide)) (zE_k3 f_8) rfl 8 (by decide) (hts (.fieldLink RX2 66 "ParoleCards$Person" "offenceCount" "I") (by decide +kernel)) (fun _ h9 => h9) (congrArg (fun z => some (Value.int z)) ((zNew_old (w := w) (q := e9) (k := 1) (n := 0) hn_7 (zk0 k_a (by decide))).2.2.1 208)) dX2_enterOffence_83 ?_
        refine lv_iconst (v := 1) hx hb dX2_enterOffence_86 (by decide) ?_
        refine lv_iadd hx hb dX2_enterOffence_87 ?_
        refine z_put (C := RX2) (T := TX2) (N := 14) (ci := 2) (index := 66) (v := .int ((zI w 208 a) + 1)) (ty := .int) hx hb hts hi2 tyX2 tyX2_ok nmX2 hown hA hH hS (zk0 f_8 (by decide)) (zE_k3 f_8) rfl 8 (by decide) (hts (.fieldLink RX2 66 "ParoleCards$Person" "offenceCount" "I") (by decide +kernel)) (fun _ h9 => h9) rfl (by decide +kernel) rfl rfl (Nat.le_of_ble_eq_true rfl) (w' := zsI (zsQ (zsI (zsI (zsI (zNew w e9 1 0) 0 e9 t0) 1 e9 days) 2 e9 0) fa n (some e9)) 208 a ((zI w 208 a) + 1)) (zs_208 (w := (zsQ (zsI (zsI (zsI (zNew w e9 1 0) 0 e9 t0) 1 e9 days) 2 e9 0) fa n (some e9))) f_8 _) (zsI_oth (zsQ (zsI (zsI (zsI (zNew w e9 1 0) 0 e9 t0) 1 e9 days) 2 e9 0) fa n (some e9)) 208 a _) (fun _ => rfl) dX2_enterOffence_88 (fun H locs hH hS => ?_)
        refine lv_aload_n hx hb dX2_enterOffence_91 rfl (lv_at hl 2 rfl) ?_
        refine lv_dup hx hb dX2_enterOffence_92 rfl ?_
        refine z_get (C := RX2) (T := TX2) (N := 14) (ci := 2) (index := 60) (v := .int (zI w 209 a)) hx hb hts hi2 hown hA hH (zk0 f_8 (by decide)) (zE_k3 f_8) rfl 9 (by decide) (hts (.fieldLink RX2 60 "ParoleCards$Person" "lostDays" "I") (by decide +kernel)) (fun _ h9 => h9) (congrArg (fun z => some (Value.int z)) ((zNew_old (w := w) (q := e9) (k := 1) (n := 0) hn_7 (zk0 k_a (by decide))).2.2.1 209)) dX2_enterOffence_93 ?_
        refine lv_iload_n hx hb dX2_enterOffence_96 rfl (lv_at hl 4 rfl) ?_
        refine lv_iadd hx hb dX2_enterOffence_97 ?_
        refine z_put (C := RX2) (T := TX2) (N := 14) (ci := 2) (index := 60) (v := .int ((zI w 209 a) + days)) (ty := .int) hx hb hts hi2 tyX2 tyX2_ok nmX2 hown hA hH hS (zk0 f_8 (by decide)) (zE_k3 f_8) rfl 9 (by decide) (hts (.fieldLink RX2 60 "ParoleCards$Person" "lostDays" "I") (by decide +kernel)) (fun _ h9 => h9) rfl (by decide +kernel) rfl rfl (Nat.le_of_ble_eq_true rfl) (w' := zsI (zsI (zsQ (zsI (zsI (zsI (zNew w e9 1 0) 0 e9 t0) 1 e9 days) 2 e9 0) fa n (some e9)) 208 a ((zI w 208 a) + 1)) 209 a ((zI w 209 a) + days)) (zs_209 (w := (zsI (zsQ (zsI (zsI (zsI (zNew w e9 1 0) 0 e9 t0) 1 e9 days) 2 e9 0) fa n (some e9)) 208 a ((zI w 208 a) + 1))) f_8 _) (zsI_oth (zsI (zsQ (zsI (zsI (zsI (zNew w e9 1 0) 0 e9 t0) 1 e9 days) 2 e9 0) fa n (some e9)) 208 a ((zI w 208 a) + 1)) 209 a _) (fun _ => rfl) dX2_enterOffence_98 (fun H locs hH hS => ?_)
        refine lv_aload_n hx hb dX2_enterOffence_101 rfl (lv_at hl 2 rfl) ?_
        refine z_callv (va_runV (As := []) (rest := []) ⟨hx, hb, hml, hown, hts⟩ (c2_leaveOrder_s l D cy base (zsI (zsI (zsQ (zsI (zsI (zsI (zNew w e9 1 0) 0 e9 t0) 1 e9 days) 2 e9 0) fa n (some e9)) 208 a ((zI w 208 a) + 1)) 209 a ((zI w 209 a) + days)) a o t f_8 f_12 f_13 f_14 f_15) (cwV 0 hts gX2_enterOffence_X2_leaveOrder rfl rfl rfl (by decide +kernel) ⟨Nat.le_of_ble_eq_true rfl, Nat.le_of_ble_eq_true rfl⟩) (z_preV hA hS hH (z_recv hA hH (zk0 f_8 (by decide)) (zE_k3 f_8) (q := (RX2, TX2, 14)) rfl)) rfl rfl hl.1 rfl (lv_room (Nat.le_of_ble_eq_true rfl)) dX2_enterOffence_102 ⟨Nat.le_of_ble_eq_true rfl, Nat.le_of_ble_eq_true rfl⟩) hS (fun u_k_18 H locs hw_k_18 hH hz_k_18 hS => ?_)
        have hu_k_18 := hw_k_18
        rw [hu_k_18] at hH
        rw [show zI (zsI (zsI (zsQ (zsI (zsI (zsI (zNew w e9 1 0) 0 e9 t0) 1 e9 days) 2 e9 0) fa n (some e9)) 208 a ((zI w 208 a) + 1)) 209 a ((zI w 209 a) + days)) 105 o = (zI w 105 o) from ((zNew_old (w := w) (q := e9) (k := 1) (n := 0) hn_7 (zk0 k_o (by decide))).2.2.1 105)] at hH
        rw [show zI (zsI (zsI (zsQ (zsI (zsI (zsI (zNew w e9 1 0) 0 e9 t0) 1 e9 days) 2 e9 0) fa n (some e9)) 208 a ((zI w 208 a) + 1)) 209 a ((zI w 209 a) + days)) 401 t = (zI w 401 t) from ((zNew_old (w := w) (q := e9) (k := 1) (n := 0) hn_7 (zk0 k_t (by decide))).2.2.1 401)] at hH
        refine lv_iload_n hx hb dX2_enterOffence_105 rfl (lv_at hl 1 rfl) ?_
        refine vx_ret ?_
        exact z_iret hx hb hr hlocks hH hS (Or.inr ⟨h_k_1_0, c_5, ⟨e9, hn_7, rfl⟩, rfl, rfl⟩) (by decide) (by decide) dX2_enterOffence_106
      · refine lv_iconst (v := 1) hx hb dX2_enterOffence_42 (by decide) ?_
        refine lv_goto (tgt := 47) hx hb dX2_enterOffence_43 (by decide) ?_
        refine lv_istore (lv' := [(4, .int 1), (3, .int (zI w 208 a)), (0, .ref a), (1, .int t0), (2, .int days)]) hx hb dX2_enterOffence_47 hl (by decide) rfl (fun ls hl => ?_)
        refine lv_iload hx hb dX2_enterOffence_49 (lv_at hl 0 rfl) ?_
        refine lv_if_eq (tgt := 64) hx hb dX2_enterOffence_51 (by decide) (fun c_19 => absurd c_19 (by decide)) (fun _ => ?_)
        refine lv_aload_n hx hb dX2_enterOffence_54 rfl (lv_at hl 2 rfl) ?_
        refine lv_dup hx hb dX2_enterOffence_55 rfl ?_
        refine z_get (C := RX2) (T := TX2) (N := 14) (ci := 2) (index := 9) (v := .int (zI w 203 a)) hx hb hts hi2 hown hA hH (zk0 k_a (by decide)) (zE_k3 k_a) rfl 3 (by decide) (hts (.fieldLink RX2 9 "ParoleCards$Person" "regimeNow" "I") (by decide +kernel)) (fun _ h9 => h9) rfl dX2_enterOffence_56 ?_
        refine lv_iconst (v := 1) hx hb dX2_enterOffence_59 (by decide) ?_
        refine lv_isub hx hb dX2_enterOffence_60 ?_
        refine z_put (C := RX2) (T := TX2) (N := 14) (ci := 2) (index := 9) (v := .int ((zI w 203 a) - 1)) (ty := .int) hx hb hts hi2 tyX2 tyX2_ok nmX2 hown hA hH hS (zk0 k_a (by decide)) (zE_k3 k_a) rfl 3 (by decide) (hts (.fieldLink RX2 9 "ParoleCards$Person" "regimeNow" "I") (by decide +kernel)) (fun _ h9 => h9) rfl (by decide +kernel) rfl rfl (Nat.le_of_ble_eq_true rfl) (w' := zsI w 203 a ((zI w 203 a) - 1)) (zs_203 (w := w) k_a _) (zsI_oth w 203 a _) (fun _ => rfl) dX2_enterOffence_61 (fun H locs hH hS => ?_)
        refine lv_aload_n hx hb dX2_enterOffence_64 rfl (lv_at hl 2 rfl) ?_
        refine z_get (C := RX2) (T := TX2) (N := 14) (ci := 2) (index := 17) (v := .ref fa) hx hb hts hi2 hown hA hH (zk0 k_a (by decide)) (zE_k3 k_a) rfl 7 (by decide) (hts (.fieldLink RX2 17 "ParoleCards$Person" "offences" "[LParoleCards$Offence;") (by decide +kernel)) (fun _ h9 => h9) (congrArg (fun z => some (va_rf z)) p207_a) dX2_enterOffence_65 ?_
        refine lv_iload_n hx hb dX2_enterOffence_68 rfl (lv_at hl 1 rfl) ?_
        refine z_new (C := RX0) (T := TX0) (N := 4) (ci := 0) (k := 1) (index := 15) hx hb hts hi0 tyX0 tyX0_ok hown (hts (.classLink RX2 15 RX0) (by decide +kernel)) (hts (.instantiable RX0 4) (by decide +kernel)) (hts (.initialized RX0) (by decide +kernel)) hA hH hS rfl zdf_0 (fun q => znew_0 q) (Nat.le_of_ble_eq_true rfl) (Nat.le_of_ble_eq_true rfl) dX2_enterOffence_69 (fun e9 H hn_20 hH hS => ?_)
        have f_21 := ((zNew_old (k := 1) (n := 0) hn_20 (zk0 k_a (by decide))).2.1).trans k_a
        have f_22 := ((zNew_old (k := 1) (n := 0) hn_20 (zk0 k_a (by decide))).2.2.2.1 207).trans p207_a
        have f_23 := ((zNew_old (k := 1) (n := 0) hn_20 (zk0 k_fa (by decide))).2.1).trans k_fa
        have f_24 := ((zNew_old (k := 1) (n := 0) hn_20 (zk0 k_fa (by decide))).2.2.2.2.1).trans n_fa
        have f_25 := ((zNew_old (k := 1) (n := 0) hn_20 (zk0 k_a (by decide))).2.2.2.1 210).trans p210_a
        have f_26 := ((zNew_old (k := 1) (n := 0) hn_20 (zk0 k_o (by decide))).2.1).trans k_o
        have f_27 := ((zNew_old (k := 1) (n := 0) hn_20 (zk0 k_o (by decide))).2.2.2.1 102).trans p102_o
        have f_28 := ((zNew_old (k := 1) (n := 0) hn_20 (zk0 k_t (by decide))).2.1).trans k_t
        have f_29 := (zNew_new (w := (zsI w 203 a ((zI w 203 a) - 1))) (q := e9) (k := 1) (n := 0)).1
        refine lv_dup hx hb dX2_enterOffence_72 rfl ?_
        refine lv_iload_n hx hb dX2_enterOffence_73 rfl (lv_at hl 3 rfl) ?_
        refine lv_iload_n hx hb dX2_enterOffence_74 rfl (lv_at hl 4 rfl) ?_
        refine lv_iload hx hb dX2_enterOffence_75 (lv_at hl 0 rfl) ?_
        refine z_callv (va_runI (As := [.int t0, .int days, .int 1]) (rest := [.ref e9, .int (zI w 208 a), .ref fa]) ⟨hx, hb, hml, hown, hts⟩ (c0_init l D cy base (zNew (zsI w 203 a ((zI w 203 a) - 1)) e9 1 0) e9 t0 days 1 f_29 rfl rfl) (cwI 3 hts gX2_enterOffence_X0_init rfl rfl rfl (hts (.initialized RX0) (by decide +kernel)) (hts (.methodLink RX2 83 yX0_init) (by decide +kernel)) (hts (.instanceMethod yX0_init) (by decide +kernel)) rfl (by decide +kernel) ⟨Nat.le_of_ble_eq_true rfl, Nat.le_of_ble_eq_true rfl⟩) (z_preS hA hS hH) rfl rfl hl.1 rfl (lv_room (Nat.le_of_ble_eq_true rfl)) dX2_enterOffence_77 ⟨Nat.le_of_ble_eq_true rfl, Nat.le_of_ble_eq_true rfl⟩) hS (fun u_k_30 H locs hw_k_30 hH hz_k_30 hS => ?_)
        have hu_k_30 := hw_k_30
        rw [hu_k_30] at hH
        refine z_aast (r := (RX0, TX0, 4)) (ci := 0) hx hb hA hH hS (zk0 f_23 (by decide)) (zEn (zE_k10 f_23) f_24) 2 rfl (zk0 f_29 (by decide)) (zE_k1 f_29) rfl n h8 (n50 h8 c_4 (hn := hn50)) (by decide) (w' := zsQ (zsI (zsI (zsI (zNew (zsI w 203 a ((zI w 203 a) - 1)) e9 1 0) 0 e9 t0) 1 e9 days) 2 e9 1) fa n (some e9)) (zEn (zst_10 (w := (zsI (zsI (zsI (zNew (zsI w 203 a ((zI w 203 a) - 1)) e9 1 0) 0 e9 t0) 1 e9 days) 2 e9 1)) f_23 _ _) f_24) (zsQ_oth (zsI (zsI (zsI (zNew (zsI w 203 a ((zI w 203 a) - 1)) e9 1 0) 0 e9 t0) 1 e9 days) 2 e9 1) fa n _) (fun _ => rfl) dX2_enterOffence_80 (fun H locs hH hS => ?_)
        refine lv_aload_n hx hb dX2_enterOffence_81 rfl (lv_at hl 2 rfl) ?_
        refine lv_dup hx hb dX2_enterOffence_82 rfl ?_
        refine z_get (C := RX2) (T := TX2) (N := 14) (ci := 2) (index := 66) (v := .int (zI w 208 a)) hx hb hts hi2 hown hA hH (zk0 f_21 (by decide)) (zE_k3 f_21) rfl 8 (by decide) (hts (.fieldLink RX2 66 "ParoleCards$Person" "offenceCount" "I") (by decide +kernel)) (fun _ h9 => h9) (congrArg (fun z => some (Value.int z)) ((zNew_old (w := (zsI w 203 a ((zI w 203 a) - 1))) (q := e9) (k := 1) (n := 0) hn_20 (zk0 k_a (by decide))).2.2.1 208)) dX2_enterOffence_83 ?_
        refine lv_iconst (v := 1) hx hb dX2_enterOffence_86 (by decide) ?_
        refine lv_iadd hx hb dX2_enterOffence_87 ?_
        refine z_put (C := RX2) (T := TX2) (N := 14) (ci := 2) (index := 66) (v := .int ((zI w 208 a) + 1)) (ty := .int) hx hb hts hi2 tyX2 tyX2_ok nmX2 hown hA hH hS (zk0 f_21 (by decide)) (zE_k3 f_21) rfl 8 (by decide) (hts (.fieldLink RX2 66 "ParoleCards$Person" "offenceCount" "I") (by decide +kernel)) (fun _ h9 => h9) rfl (by decide +kernel) rfl rfl (Nat.le_of_ble_eq_true rfl) (w' := zsI (zsQ (zsI (zsI (zsI (zNew (zsI w 203 a ((zI w 203 a) - 1)) e9 1 0) 0 e9 t0) 1 e9 days) 2 e9 1) fa n (some e9)) 208 a ((zI w 208 a) + 1)) (zs_208 (w := (zsQ (zsI (zsI (zsI (zNew (zsI w 203 a ((zI w 203 a) - 1)) e9 1 0) 0 e9 t0) 1 e9 days) 2 e9 1) fa n (some e9))) f_21 _) (zsI_oth (zsQ (zsI (zsI (zsI (zNew (zsI w 203 a ((zI w 203 a) - 1)) e9 1 0) 0 e9 t0) 1 e9 days) 2 e9 1) fa n (some e9)) 208 a _) (fun _ => rfl) dX2_enterOffence_88 (fun H locs hH hS => ?_)
        refine lv_aload_n hx hb dX2_enterOffence_91 rfl (lv_at hl 2 rfl) ?_
        refine lv_dup hx hb dX2_enterOffence_92 rfl ?_
        refine z_get (C := RX2) (T := TX2) (N := 14) (ci := 2) (index := 60) (v := .int (zI w 209 a)) hx hb hts hi2 hown hA hH (zk0 f_21 (by decide)) (zE_k3 f_21) rfl 9 (by decide) (hts (.fieldLink RX2 60 "ParoleCards$Person" "lostDays" "I") (by decide +kernel)) (fun _ h9 => h9) (congrArg (fun z => some (Value.int z)) ((zNew_old (w := (zsI w 203 a ((zI w 203 a) - 1))) (q := e9) (k := 1) (n := 0) hn_20 (zk0 k_a (by decide))).2.2.1 209)) dX2_enterOffence_93 ?_
        refine lv_iload_n hx hb dX2_enterOffence_96 rfl (lv_at hl 4 rfl) ?_
        refine lv_iadd hx hb dX2_enterOffence_97 ?_
        refine z_put (C := RX2) (T := TX2) (N := 14) (ci := 2) (index := 60) (v := .int ((zI w 209 a) + days)) (ty := .int) hx hb hts hi2 tyX2 tyX2_ok nmX2 hown hA hH hS (zk0 f_21 (by decide)) (zE_k3 f_21) rfl 9 (by decide) (hts (.fieldLink RX2 60 "ParoleCards$Person" "lostDays" "I") (by decide +kernel)) (fun _ h9 => h9) rfl (by decide +kernel) rfl rfl (Nat.le_of_ble_eq_true rfl) (w' := zsI (zsI (zsQ (zsI (zsI (zsI (zNew (zsI w 203 a ((zI w 203 a) - 1)) e9 1 0) 0 e9 t0) 1 e9 days) 2 e9 1) fa n (some e9)) 208 a ((zI w 208 a) + 1)) 209 a ((zI w 209 a) + days)) (zs_209 (w := (zsI (zsQ (zsI (zsI (zsI (zNew (zsI w 203 a ((zI w 203 a) - 1)) e9 1 0) 0 e9 t0) 1 e9 days) 2 e9 1) fa n (some e9)) 208 a ((zI w 208 a) + 1))) f_21 _) (zsI_oth (zsI (zsQ (zsI (zsI (zsI (zNew (zsI w 203 a ((zI w 203 a) - 1)) e9 1 0) 0 e9 t0) 1 e9 days) 2 e9 1) fa n (some e9)) 208 a ((zI w 208 a) + 1)) 209 a _) (fun _ => rfl) dX2_enterOffence_98 (fun H locs hH hS => ?_)
        refine lv_aload_n hx hb dX2_enterOffence_101 rfl (lv_at hl 2 rfl) ?_
        refine z_callv (va_runV (As := []) (rest := []) ⟨hx, hb, hml, hown, hts⟩ (c2_leaveOrder_s l D cy base (zsI (zsI (zsQ (zsI (zsI (zsI (zNew (zsI w 203 a ((zI w 203 a) - 1)) e9 1 0) 0 e9 t0) 1 e9 days) 2 e9 1) fa n (some e9)) 208 a ((zI w 208 a) + 1)) 209 a ((zI w 209 a) + days)) a o t f_21 f_25 f_26 f_27 f_28) (cwV 0 hts gX2_enterOffence_X2_leaveOrder rfl rfl rfl (by decide +kernel) ⟨Nat.le_of_ble_eq_true rfl, Nat.le_of_ble_eq_true rfl⟩) (z_preV hA hS hH (z_recv hA hH (zk0 f_21 (by decide)) (zE_k3 f_21) (q := (RX2, TX2, 14)) rfl)) rfl rfl hl.1 rfl (lv_room (Nat.le_of_ble_eq_true rfl)) dX2_enterOffence_102 ⟨Nat.le_of_ble_eq_true rfl, Nat.le_of_ble_eq_true rfl⟩) hS (fun u_k_31 H locs hw_k_31 hH hz_k_31 hS => ?_)
        have hu_k_31 := hw_k_31
        rw [hu_k_31] at hH
        rw [show zI (zsI (zsI (zsQ (zsI (zsI (zsI (zNew (zsI w 203 a ((zI w 203 a) - 1)) e9 1 0) 0 e9 t0) 1 e9 days) 2 e9 1) fa n (some e9)) 208 a ((zI w 208 a) + 1)) 209 a ((zI w 209 a) + days)) 105 o = (zI w 105 o) from ((zNew_old (w := (zsI w 203 a ((zI w 203 a) - 1))) (q := e9) (k := 1) (n := 0) hn_20 (zk0 k_o (by decide))).2.2.1 105)] at hH
        rw [show zI (zsI (zsI (zsQ (zsI (zsI (zsI (zNew (zsI w 203 a ((zI w 203 a) - 1)) e9 1 0) 0 e9 t0) 1 e9 days) 2 e9 1) fa n (some e9)) 208 a ((zI w 208 a) + 1)) 209 a ((zI w 209 a) + days)) 401 t = (zI w 401 t) from ((zNew_old (w := (zsI w 203 a ((zI w 203 a) - 1))) (q := e9) (k := 1) (n := 0) hn_20 (zk0 k_t (by decide))).2.2.1 401)] at hH
        refine lv_iload_n hx hb dX2_enterOffence_105 rfl (lv_at hl 1 rfl) ?_
        refine vx_ret ?_
        exact z_iret hx hb hr hlocks hH hS (Or.inl ⟨h_k_1_0, c_5, ⟨e9, hn_20, rfl⟩, rfl, rfl⟩) (by decide) (by decide) dX2_enterOffence_106
    · exact z_throwS (cls := zIse) (text := "the person has no room for another paper") (is := 75) (ic := 77) (ik := 73) hx hb hl9 hown (by decide +kernel) (hts (.classLink RX2 73 "java/lang/IllegalStateException") (by decide +kernel)) (hts (.initialized "java/lang/IllegalStateException") (by decide +kernel)) hA (by decide +kernel) (fun w9 h9 => hts w9 (hat_77 w9 h9)) (by decide +kernel) (by decide +kernel) hH hS (hl.1.trans hml.symm) dX2_enterOffence_25 dX2_enterOffence_28 dX2_enterOffence_29 dX2_enterOffence_31 dX2_enterOffence_34 htab (Nat.le_of_ble_eq_true rfl) (Nat.le_of_ble_eq_true rfl) (Nat.le_of_ble_eq_true rfl) (Nat.le_of_ble_eq_true rfl) hlocks (by refine ⟨?_, rfl, rfl⟩; intro h9; first | exact absurd h9.1 (by assumption) | exact absurd h9.2 (by assumption)) (by decide) (by decide)
  · rw [hu_k_1] at hH
    refine lv_if_eq (tgt := 25) hx hb dX2_enterOffence_9 (by decide) (fun _ => ?_) (fun c_32 => absurd c_32 (by decide))
    exact z_throwS (cls := zIse) (text := "the person has no room for another paper") (is := 75) (ic := 77) (ik := 73) hx hb hl9 hown (by decide +kernel) (hts (.classLink RX2 73 "java/lang/IllegalStateException") (by decide +kernel)) (hts (.initialized "java/lang/IllegalStateException") (by decide +kernel)) hA (by decide +kernel) (fun w9 h9 => hts w9 (hat_77 w9 h9)) (by decide +kernel) (by decide +kernel) hH hS (hl.1.trans hml.symm) dX2_enterOffence_25 dX2_enterOffence_28 dX2_enterOffence_29 dX2_enterOffence_31 dX2_enterOffence_34 htab (Nat.le_of_ble_eq_true rfl) (Nat.le_of_ble_eq_true rfl) (Nat.le_of_ble_eq_true rfl) (Nat.le_of_ble_eq_true rfl) hlocks (by refine ⟨?_, rfl, rfl⟩; intro h9; first | exact absurd h9.1 (by assumption) | exact absurd h9.2 (by assumption)) (by decide) (by decide)
