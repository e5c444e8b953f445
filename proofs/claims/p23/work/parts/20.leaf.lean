set_option maxHeartbeats 4000000 in
set_option maxRecDepth 100000 in
theorem c0_init (l : Launch) (D : va_G) (cy : Nat → ClassId) (base : Nat) (w : zW) (a : Nat) (day : Int32) (days : Int32) (low : Int32) (k_a : zK w a = 1) (hlow : narrow .boolean (.int low) = .int low) (hfit : fits .boolean (.int low) = true) : Met l yX0_init wsX0_init ({ frames := 1, cells := 0, slots := 0, locals := 20 }) (zPc D cy base (zH D cy base) [.ref a, .int day, .int days, .int low] w) (zQv base (zH D cy base) (fun (u0 : zW) => u0 = (zsI (zsI (zsI w 0 a day) 1 a days) 2 a low))) 0 0 (fun q => base ≤ q) := by
  refine Met.ofW (cc := cX0_init) (maxL := 4) (ret := none) (by decide) rfl ?_
  intro p e s m args below meth c s₁ B9 hml hv
  obtain ⟨rfl, hA, hH⟩ := hv
  have hx := B9.exec
  have hb := B9.bytes
  have hr := B9.returns
  have hts := atoms_spec (ws := wsX0_init) B9.pre
  have hown : s.vm.findClass RX0 = some m.cls := findClass_of_methodNamed B9.named
  have hlocks := B9.notSynchronized
  have hin : meth.name = "<init>" := (name_of_methodNamed B9.named B9.method).1
  have hi0 : ∀ w ∈ wsX00, w ∈ wsX0_init := by decide +kernel
  have hS : va_S (fun q : Nat => base ≤ q) s.heap s.heap [] := va_S.rf
  have hl := lv_entry ([.ref a, .int day, .int days, .int low]) (n := 4) (Nat.le_of_ble_eq_true rfl)
  rw [lg_entry_eq]
  generalize (lg_sl ([.ref a, .int day, .int days, .int low]) ++ List.replicate (4 - (lg_sl ([.ref a, .int day, .int days, .int low])).length) Slot.unset).toArray = ls at hl ⊢
  have hl : lv_has ls 4 [(0, .ref a), (1, .int day), (2, .int days), (3, .int low)] := hl
  refine lv_aload_n hx hb dX0_init_0 rfl (lv_at hl 0 rfl) ?_
  refine W.objInit hx hb hown (hts (.methodLink RX0 3 objectInit) (by decide +kernel)) (hts (.instanceMethod objectInit) (by decide +kernel)) (hts (.code objectInit ⟨#[0xb1]⟩ 1 none) (by decide +kernel)) rfl (by rw [hml]; exact hl.1) rfl dX0_init_1 (Nat.le_of_ble_eq_true rfl) (Nat.le_of_ble_eq_true rfl) ?_
  refine W.eq (g2 := F0 m 4 ls []) rfl ?_
  refine lv_aload_n hx hb dX0_init_4 rfl (lv_at hl 0 rfl) ?_
  refine lv_iload_n hx hb dX0_init_5 rfl (lv_at hl 1 rfl) ?_
  refine z_putF (C := RX0) (T := TX0) (N := 4) (ci := 0) (index := 9) (v := .int day) (ty := .int) hx hb hts hi0 tyX0 tyX0_ok nmX0 hown hA hH hS (zk0 k_a (by decide)) (zE_k1 k_a) rfl 0 (by decide) (hts (.fieldLink RX0 9 "ParoleCards$Offence" "day" "I") (by decide +kernel)) (fun _ h9 => h9) rfl hin rfl (by decide +kernel) rfl rfl (Nat.le_of_ble_eq_true rfl) (w' := zsI w 0 a day) (zs_0 (w := w) k_a _) (zsI_oth w 0 a _) (fun _ => rfl) dX0_init_6 (fun H locs hH hS => ?_)
  refine lv_aload_n hx hb dX0_init_9 rfl (lv_at hl 0 rfl) ?_
  refine lv_iload_n hx hb dX0_init_10 rfl (lv_at hl 2 rfl) ?_
  refine z_putF (C := RX0) (T := TX0) (N := 4) (ci := 0) (index := 15) (v := .int days) (ty := .int) hx hb hts hi0 tyX0 tyX0_ok nmX0 hown hA hH hS (zk0 k_a (by decide)) (zE_k1 k_a) rfl 1 (by decide) (hts (.fieldLink RX0 15 "ParoleCards$Offence" "days" "I") (by decide +kernel)) (fun _ h9 => h9) rfl hin rfl (by decide +kernel) rfl rfl (Nat.le_of_ble_eq_true rfl) (w' := zsI (zsI w 0 a day) 1 a days) (zs_1 (w := (zsI w 0 a day)) k_a _) (zsI_oth (zsI w 0 a day) 1 a _) (fun _ => rfl) dX0_init_11 (fun H locs hH hS => ?_)
  refine lv_aload_n hx hb dX0_init_14 rfl (lv_at hl 0 rfl) ?_
  refine lv_iload_n hx hb dX0_init_15 rfl (lv_at hl 3 rfl) ?_
  refine z_putF (C := RX0) (T := TX0) (N := 4) (ci := 0) (index := 18) (v := .int low) (ty := .boolean) hx hb hts hi0 tyX0 tyX0_ok nmX0 hown hA hH hS (zk0 k_a (by decide)) (zE_k1 k_a) rfl 2 (by decide) (hts (.fieldLink RX0 18 "ParoleCards$Offence" "loweredRegime" "Z") (by decide +kernel)) (fun _ h9 => h9) rfl hin rfl (by decide +kernel) hlow hfit (Nat.le_of_ble_eq_true rfl) (w' := zsI (zsI (zsI w 0 a day) 1 a days) 2 a low) (zs_2 (w := (zsI (zsI w 0 a day) 1 a days)) k_a _) (zsI_oth (zsI (zsI w 0 a day) 1 a days) 2 a _) (fun _ => rfl) dX0_init_16 (fun H locs hH hS => ?_)
  exact z_vret hx hb hr hlocks hH hS (by exact rfl) (by decide) (by decide) dX0_init_19
set_option maxHeartbeats 4000000 in
set_option maxRecDepth 100000 in
theorem c0_lowers (l : Launch) (D : va_G) (cy : Nat → ClassId) (base : Nat) (w : zW) (a : Nat) (t : Int32) (k_a : zK w a = 1) : Met l yX0_lowersLimitOn wsX0_lowersLimitOn ({ frames := 0, cells := 0, slots := 0, locals := 0 }) (zPc D cy base (zH D cy base) [.ref a, .int t] w) (zQi base (zH D cy base) (fun (r0 : Int32) (u0 : zW) => ((((zI w 3 a) = 0 ∧ (t - (zI w 0 a)) ≤ 29)) ∧ r0 = 1 ∧ u0 = w) ∨ ((¬ ((zI w 3 a) = 0 ∧ (t - (zI w 0 a)) ≤ 29)) ∧ r0 = 0 ∧ u0 = w))) 0 0 (fun q => base ≤ q) := by
  refine Met.ofW (cc := cX0_lowersLimitOn) (maxL := 2) (ret := (some .boolean)) (by decide) rfl ?_
  intro p e s m args below meth c s₁ B9 hml hv
  obtain ⟨rfl, hA, hH⟩ := hv
  have hx := B9.exec
  have hb := B9.bytes
  have hr := B9.returns
  have hts := atoms_spec (ws := wsX0_lowersLimitOn) B9.pre
  have hown : s.vm.findClass RX0 = some m.cls := findClass_of_methodNamed B9.named
  have hlocks := B9.notSynchronized
  have hi0 : ∀ w ∈ wsX00, w ∈ wsX0_lowersLimitOn := by decide +kernel
  have hS : va_S (fun q : Nat => base ≤ q) s.heap s.heap [] := va_S.rf
  have hl := lv_entry ([.ref a, .int t]) (n := 2) (Nat.le_of_ble_eq_true rfl)
  rw [lg_entry_eq]
  generalize (lg_sl ([.ref a, .int t]) ++ List.replicate (2 - (lg_sl ([.ref a, .int t])).length) Slot.unset).toArray = ls at hl ⊢
  have hl : lv_has ls 2 [(0, .ref a), (1, .int t)] := hl
  refine lv_aload_n hx hb dX0_lowersLimitOn_0 rfl (lv_at hl 0 rfl) ?_
  refine z_get (C := RX0) (T := TX0) (N := 4) (ci := 0) (index := 22) (v := .int (zI w 3 a)) hx hb hts hi0 hown hA hH (zk0 k_a (by decide)) (zE_k1 k_a) rfl 3 (by decide) (hts (.fieldLink RX0 22 "ParoleCards$Offence" "appealed" "Z") (by decide +kernel)) (fun _ h9 => h9) rfl dX0_lowersLimitOn_1 ?_
  refine lv_if_ne (tgt := 22) hx hb dX0_lowersLimitOn_4 (by decide) (fun c_1 => ?_) (fun c_1 => ?_)
  · refine lv_iconst (v := 0) hx hb dX0_lowersLimitOn_22 (by decide) ?_
    exact z_zret hx hb hr hlocks hH hS rfl (by first | contradiction | (refine Or.inl (⟨?_, rfl, rfl⟩) <;> (simp_all [i30]; done)) | (refine Or.inr (⟨?_, rfl, rfl⟩) <;> (simp_all [i30]; done))) (by decide) (by decide) dX0_lowersLimitOn_23
  · refine lv_iload_n hx hb dX0_lowersLimitOn_7 rfl (lv_at hl 1 rfl) ?_
    refine lv_aload_n hx hb dX0_lowersLimitOn_8 rfl (lv_at hl 0 rfl) ?_
    refine z_get (C := RX0) (T := TX0) (N := 4) (ci := 0) (index := 9) (v := .int (zI w 0 a)) hx hb hts hi0 hown hA hH (zk0 k_a (by decide)) (zE_k1 k_a) rfl 0 (by decide) (hts (.fieldLink RX0 9 "ParoleCards$Offence" "day" "I") (by decide +kernel)) (fun _ h9 => h9) rfl dX0_lowersLimitOn_9 ?_
    refine lv_isub hx hb dX0_lowersLimitOn_12 ?_
    refine lv_bipush (v := 30) hx hb dX0_lowersLimitOn_13 (by decide) ?_
    refine lv_icmp_ge (tgt := 22) hx hb dX0_lowersLimitOn_15 (by decide) (fun c_2 => ?_) (fun c_2 => ?_)
    · refine lv_iconst (v := 0) hx hb dX0_lowersLimitOn_22 (by decide) ?_
      exact z_zret hx hb hr hlocks hH hS rfl (by first | contradiction | (refine Or.inl (⟨?_, rfl, rfl⟩) <;> (simp_all [i30]; done)) | (refine Or.inr (⟨?_, rfl, rfl⟩) <;> (simp_all [i30]; done))) (by decide) (by decide) dX0_lowersLimitOn_23
    · refine lv_iconst (v := 1) hx hb dX0_lowersLimitOn_18 (by decide) ?_
      refine lv_goto (tgt := 23) hx hb dX0_lowersLimitOn_19 (by decide) ?_
      exact z_zret hx hb hr hlocks hH hS rfl (by first | contradiction | (refine Or.inl (⟨?_, rfl, rfl⟩) <;> (simp_all [i30]; done)) | (refine Or.inr (⟨?_, rfl, rfl⟩) <;> (simp_all [i30]; done))) (by decide) (by decide) dX0_lowersLimitOn_23
set_option maxHeartbeats 4000000 in
set_option maxRecDepth 100000 in
theorem c1_init (l : Launch) (D : va_G) (cy : Nat → ClassId) (base : Nat) (w : zW) (a : Nat) (nm : Int32) (sk : Int32) (t : Nat) (wk : Int32) (wg : Int32) (k_a : zK w a = 2) : Met l yX1_init wsX1_init ({ frames := 1, cells := 0, slots := 0, locals := 20 }) (zPc D cy base (zH D cy base) [.ref a, .int nm, .int sk, .ref t, .int wk, .int wg] w) (zQv base (zH D cy base) (fun (u0 : zW) => u0 = (zsI (zsI (zsP (zsI (zsI w 100 a nm) 101 a sk) 102 a (some t)) 104 a wk) 103 a wg))) 0 0 (fun q => base ≤ q) := by
  refine Met.ofW (cc := cX1_init) (maxL := 6) (ret := none) (by decide) rfl ?_
  intro p e s m args below meth c s₁ B9 hml hv
  obtain ⟨rfl, hA, hH⟩ := hv
  have hx := B9.exec
  have hb := B9.bytes
  have hr := B9.returns
  have hts := atoms_spec (ws := wsX1_init) B9.pre
  have hown : s.vm.findClass RX1 = some m.cls := findClass_of_methodNamed B9.named
  have hlocks := B9.notSynchronized
  have hin : meth.name = "<init>" := (name_of_methodNamed B9.named B9.method).1
  have hi1 : ∀ w ∈ wsX10, w ∈ wsX1_init := by decide +kernel
  have hS : va_S (fun q : Nat => base ≤ q) s.heap s.heap [] := va_S.rf
  have hl := lv_entry ([.ref a, .int nm, .int sk, .ref t, .int wk, .int wg]) (n := 6) (Nat.le_of_ble_eq_true rfl)
  rw [lg_entry_eq]
  generalize (lg_sl ([.ref a, .int nm, .int sk, .ref t, .int wk, .int wg]) ++ List.replicate (6 - (lg_sl ([.ref a, .int nm, .int sk, .ref t, .int wk, .int wg])).length) Slot.unset).toArray = ls at hl ⊢
  have hl : lv_has ls 6 [(0, .ref a), (1, .int nm), (2, .int sk), (3, .ref t), (4, .int wk), (5, .int wg)] := hl
  refine lv_aload_n hx hb dX1_init_0 rfl (lv_at hl 0 rfl) ?_
  refine W.objInit hx hb hown (hts (.methodLink RX1 1 objectInit) (by decide +kernel)) (hts (.instanceMethod objectInit) (by decide +kernel)) (hts (.code objectInit ⟨#[0xb1]⟩ 1 none) (by decide +kernel)) rfl (by rw [hml]; exact hl.1) rfl dX1_init_1 (Nat.le_of_ble_eq_true rfl) (Nat.le_of_ble_eq_true rfl) ?_
  refine W.eq (g2 := F0 m 4 ls []) rfl ?_
  refine lv_aload_n hx hb dX1_init_4 rfl (lv_at hl 0 rfl) ?_
  refine lv_iload_n hx hb dX1_init_5 rfl (lv_at hl 1 rfl) ?_
  refine z_putF (C := RX1) (T := TX1) (N := 6) (ci := 1) (index := 7) (v := .int nm) (ty := .int) hx hb hts hi1 tyX1 tyX1_ok nmX1 hown hA hH hS (zk0 k_a (by decide)) (zE_k2 k_a) rfl 0 (by decide) (hts (.fieldLink RX1 7 "ParoleCards$Order" "number" "I") (by decide +kernel)) (fun _ h9 => h9) rfl hin rfl (by decide +kernel) rfl rfl (Nat.le_of_ble_eq_true rfl) (w' := zsI w 100 a nm) (zs_100 (w := w) k_a _) (zsI_oth w 100 a _) (fun _ => rfl) dX1_init_6 (fun H locs hH hS => ?_)
  refine lv_aload_n hx hb dX1_init_9 rfl (lv_at hl 0 rfl) ?_
  refine lv_iload_n hx hb dX1_init_10 rfl (lv_at hl 2 rfl) ?_
  refine z_putF (C := RX1) (T := TX1) (N := 6) (ci := 1) (index := 13) (v := .int sk) (ty := .int) hx hb hts hi1 tyX1 tyX1_ok nmX1 hown hA hH hS (zk0 k_a (by decide)) (zE_k2 k_a) rfl 1 (by decide) (hts (.fieldLink RX1 13 "ParoleCards$Order" "skill" "I") (by decide +kernel)) (fun _ h9 => h9) rfl hin rfl (by decide +kernel) rfl rfl (Nat.le_of_ble_eq_true rfl) (w' := zsI (zsI w 100 a nm) 101 a sk) (zs_101 (w := (zsI w 100 a nm)) k_a _) (zsI_oth (zsI w 100 a nm) 101 a _) (fun _ => rfl) dX1_init_11 (fun H locs hH hS => ?_)
  refine lv_aload_n hx hb dX1_init_14 rfl (lv_at hl 0 rfl) ?_
  refine lv_aload_n hx hb dX1_init_15 rfl (lv_at hl 3 rfl) ?_
  refine z_putF (C := RX1) (T := TX1) (N := 6) (ci := 1) (index := 16) (v := .ref t) (ty := .object "ParoleCards$ToolKind") hx hb hts hi1 tyX1 tyX1_ok nmX1 hown hA hH hS (zk0 k_a (by decide)) (zE_k2 k_a) rfl 2 (by decide) (hts (.fieldLink RX1 16 "ParoleCards$Order" "tools" "LParoleCards$ToolKind;") (by decide +kernel)) (fun _ h9 => h9) rfl hin rfl (by decide +kernel) rfl rfl (Nat.le_of_ble_eq_true rfl) (w' := zsP (zsI (zsI w 100 a nm) 101 a sk) 102 a (some t)) (zs_102 (w := (zsI (zsI w 100 a nm) 101 a sk)) k_a _) (zsP_oth (zsI (zsI w 100 a nm) 101 a sk) 102 a _) (fun _ => rfl) dX1_init_16 (fun H locs hH hS => ?_)
  refine lv_aload_n hx hb dX1_init_19 rfl (lv_at hl 0 rfl) ?_
  refine lv_iload hx hb dX1_init_20 (lv_at hl 4 rfl) ?_
  refine z_put (C := RX1) (T := TX1) (N := 6) (ci := 1) (index := 20) (v := .int wk) (ty := .int) hx hb hts hi1 tyX1 tyX1_ok nmX1 hown hA hH hS (zk0 k_a (by decide)) (zE_k2 k_a) rfl 4 (by decide) (hts (.fieldLink RX1 20 "ParoleCards$Order" "workLeft" "I") (by decide +kernel)) (fun _ h9 => h9) rfl (by decide +kernel) rfl rfl (Nat.le_of_ble_eq_true rfl) (w' := zsI (zsP (zsI (zsI w 100 a nm) 101 a sk) 102 a (some t)) 104 a wk) (zs_104 (w := (zsP (zsI (zsI w 100 a nm) 101 a sk) 102 a (some t))) k_a _) (zsI_oth (zsP (zsI (zsI w 100 a nm) 101 a sk) 102 a (some t)) 104 a _) (fun _ => rfl) dX1_init_22 (fun H locs hH hS => ?_)
  refine lv_aload_n hx hb dX1_init_25 rfl (lv_at hl 0 rfl) ?_
  refine lv_iload hx hb dX1_init_26 (lv_at hl 5 rfl) ?_
  refine z_putF (C := RX1) (T := TX1) (N := 6) (ci := 1) (index := 23) (v := .int wg) (ty := .int) hx hb hts hi1 tyX1 tyX1_ok nmX1 hown hA hH hS (zk0 k_a (by decide)) (zE_k2 k_a) rfl 3 (by decide) (hts (.fieldLink RX1 23 "ParoleCards$Order" "wage" "I") (by decide +kernel)) (fun _ h9 => h9) rfl hin rfl (by decide +kernel) rfl rfl (Nat.le_of_ble_eq_true rfl) (w' := zsI (zsI (zsP (zsI (zsI w 100 a nm) 101 a sk) 102 a (some t)) 104 a wk) 103 a wg) (zs_103 (w := (zsI (zsP (zsI (zsI w 100 a nm) 101 a sk) 102 a (some t)) 104 a wk)) k_a _) (zsI_oth (zsI (zsP (zsI (zsI w 100 a nm) 101 a sk) 102 a (some t)) 104 a wk) 103 a _) (fun _ => rfl) dX1_init_28 (fun H locs hH hS => ?_)
  exact z_vret hx hb hr hlocks hH hS (by exact rfl) (by decide) (by decide) dX1_init_31
set_option maxHeartbeats 4000000 in
set_option maxRecDepth 100000 in
theorem c1_isFinished (l : Launch) (D : va_G) (cy : Nat → ClassId) (base : Nat) (w : zW) (a : Nat) (k_a : zK w a = 2) : Met l yX1_isFinished wsX1_isFinished ({ frames := 0, cells := 0, slots := 0, locals := 0 }) (zPc D cy base (zH D cy base) [.ref a] w) (zQi base (zH D cy base) (fun (r0 : Int32) (u0 : zW) => ((zI w 104 a) ≤ 0 ∧ r0 = 1 ∧ u0 = w) ∨ (¬ (zI w 104 a) ≤ 0 ∧ r0 = 0 ∧ u0 = w))) 0 0 (fun q => base ≤ q) := by
  refine Met.ofW (cc := cX1_isFinished) (maxL := 1) (ret := (some .boolean)) (by decide) rfl ?_
  intro p e s m args below meth c s₁ B9 hml hv
  obtain ⟨rfl, hA, hH⟩ := hv
  have hx := B9.exec
  have hb := B9.bytes
  have hr := B9.returns
  have hts := atoms_spec (ws := wsX1_isFinished) B9.pre
  have hown : s.vm.findClass RX1 = some m.cls := findClass_of_methodNamed B9.named
  have hlocks := B9.notSynchronized
  have hi1 : ∀ w ∈ wsX10, w ∈ wsX1_isFinished := by decide +kernel
  have hS : va_S (fun q : Nat => base ≤ q) s.heap s.heap [] := va_S.rf
  have hl := lv_entry ([.ref a]) (n := 1) (Nat.le_of_ble_eq_true rfl)
  rw [lg_entry_eq]
  generalize (lg_sl ([.ref a]) ++ List.replicate (1 - (lg_sl ([.ref a])).length) Slot.unset).toArray = ls at hl ⊢
  have hl : lv_has ls 1 [(0, .ref a)] := hl
  refine lv_aload_n hx hb dX1_isFinished_0 rfl (lv_at hl 0 rfl) ?_
  refine z_get (C := RX1) (T := TX1) (N := 6) (ci := 1) (index := 20) (v := .int (zI w 104 a)) hx hb hts hi1 hown hA hH (zk0 k_a (by decide)) (zE_k2 k_a) rfl 4 (by decide) (hts (.fieldLink RX1 20 "ParoleCards$Order" "workLeft" "I") (by decide +kernel)) (fun _ h9 => h9) rfl dX1_isFinished_1 ?_
  refine lv_if_gt (tgt := 11) hx hb dX1_isFinished_4 (by decide) (fun c_1 => ?_) (fun c_1 => ?_)
  · refine lv_iconst (v := 0) hx hb dX1_isFinished_11 (by decide) ?_
    exact z_zret hx hb hr hlocks hH hS rfl (by first | contradiction | (refine Or.inl (⟨?_, rfl, rfl⟩) <;> first | assumption | omega | (simp_all; done)) | (refine Or.inr (⟨?_, rfl, rfl⟩) <;> first | assumption | omega | (simp_all; done))) (by decide) (by decide) dX1_isFinished_12
  · refine lv_iconst (v := 1) hx hb dX1_isFinished_7 (by decide) ?_
    refine lv_goto (tgt := 12) hx hb dX1_isFinished_8 (by decide) ?_
    exact z_zret hx hb hr hlocks hH hS rfl (by first | contradiction | (refine Or.inl (⟨?_, rfl, rfl⟩) <;> first | assumption | omega | (simp_all; done)) | (refine Or.inr (⟨?_, rfl, rfl⟩) <;> first | assumption | omega | (simp_all; done))) (by decide) (by decide) dX1_isFinished_12
set_option maxHeartbeats 4000000 in
set_option maxRecDepth 100000 in
theorem c1_hasFreeTool (l : Launch) (D : va_G) (cy : Nat → ClassId) (base : Nat) (w : zW) (a : Nat) (t : Nat) (k_a : zK w a = 2) (p102_a : zP w 102 a = some t) (k_t : zK w t = 5) : Met l yX1_hasFreeTool wsX1_hasFreeTool ({ frames := 0, cells := 0, slots := 0, locals := 0 }) (zPc D cy base (zH D cy base) [.ref a] w) (zQi base (zH D cy base) (fun (r0 : Int32) (u0 : zW) => ((zI w 401 t) < (zI w 400 t) ∧ r0 = 1 ∧ u0 = w) ∨ (¬ (zI w 401 t) < (zI w 400 t) ∧ r0 = 0 ∧ u0 = w))) 0 0 (fun q => base ≤ q) := by
  refine Met.ofW (cc := cX1_hasFreeTool) (maxL := 1) (ret := (some .boolean)) (by decide) rfl ?_
  intro p e s m args below meth c s₁ B9 hml hv
  obtain ⟨rfl, hA, hH⟩ := hv
  have hx := B9.exec
  have hb := B9.bytes
  have hr := B9.returns
  have hts := atoms_spec (ws := wsX1_hasFreeTool) B9.pre
  have hown : s.vm.findClass RX1 = some m.cls := findClass_of_methodNamed B9.named
  have hlocks := B9.notSynchronized
  have hi1 : ∀ w ∈ wsX10, w ∈ wsX1_hasFreeTool := by decide +kernel
  have hi4 : ∀ w ∈ wsX40, w ∈ wsX1_hasFreeTool := by decide +kernel
  have hS : va_S (fun q : Nat => base ≤ q) s.heap s.heap [] := va_S.rf
  have hl := lv_entry ([.ref a]) (n := 1) (Nat.le_of_ble_eq_true rfl)
  rw [lg_entry_eq]
  generalize (lg_sl ([.ref a]) ++ List.replicate (1 - (lg_sl ([.ref a])).length) Slot.unset).toArray = ls at hl ⊢
  have hl : lv_has ls 1 [(0, .ref a)] := hl
  refine lv_aload_n hx hb dX1_hasFreeTool_0 rfl (lv_at hl 0 rfl) ?_
  refine z_get (C := RX1) (T := TX1) (N := 6) (ci := 1) (index := 16) (v := .ref t) hx hb hts hi1 hown hA hH (zk0 k_a (by decide)) (zE_k2 k_a) rfl 2 (by decide) (hts (.fieldLink RX1 16 "ParoleCards$Order" "tools" "LParoleCards$ToolKind;") (by decide +kernel)) (fun _ h9 => h9) (congrArg (fun z => some (va_rf z)) p102_a) dX1_hasFreeTool_1 ?_
  refine z_get (C := RX4) (T := TX4) (N := 2) (ci := 4) (index := 26) (v := .int (zI w 401 t)) hx hb hts hi4 hown hA hH (zk0 k_t (by decide)) (zE_k5 k_t) rfl 1 (by decide) (hts (.fieldLink RX1 26 "ParoleCards$ToolKind" "countedOut" "I") (by decide +kernel)) (fun _ h9 => h9) rfl dX1_hasFreeTool_4 ?_
  refine lv_aload_n hx hb dX1_hasFreeTool_7 rfl (lv_at hl 0 rfl) ?_
  refine z_get (C := RX1) (T := TX1) (N := 6) (ci := 1) (index := 16) (v := .ref t) hx hb hts hi1 hown hA hH (zk0 k_a (by decide)) (zE_k2 k_a) rfl 2 (by decide) (hts (.fieldLink RX1 16 "ParoleCards$Order" "tools" "LParoleCards$ToolKind;") (by decide +kernel)) (fun _ h9 => h9) (congrArg (fun z => some (va_rf z)) p102_a) dX1_hasFreeTool_8 ?_
  refine z_get (C := RX4) (T := TX4) (N := 2) (ci := 4) (index := 31) (v := .int (zI w 400 t)) hx hb hts hi4 hown hA hH (zk0 k_t (by decide)) (zE_k5 k_t) rfl 0 (by decide) (hts (.fieldLink RX1 31 "ParoleCards$ToolKind" "count" "I") (by decide +kernel)) (fun _ h9 => h9) rfl dX1_hasFreeTool_11 ?_
  refine lv_icmp_ge (tgt := 21) hx hb dX1_hasFreeTool_14 (by decide) (fun c_1 => ?_) (fun c_1 => ?_)
  · refine lv_iconst (v := 0) hx hb dX1_hasFreeTool_21 (by decide) ?_
    exact z_zret hx hb hr hlocks hH hS rfl (by first | contradiction | (refine Or.inl (⟨?_, rfl, rfl⟩) <;> first | assumption | omega | (simp_all; done)) | (refine Or.inr (⟨?_, rfl, rfl⟩) <;> first | assumption | omega | (simp_all; done))) (by decide) (by decide) dX1_hasFreeTool_22
  · refine lv_iconst (v := 1) hx hb dX1_hasFreeTool_17 (by decide) ?_
    refine lv_goto (tgt := 22) hx hb dX1_hasFreeTool_18 (by decide) ?_
    exact z_zret hx hb hr hlocks hH hS rfl (by first | contradiction | (refine Or.inl (⟨?_, rfl, rfl⟩) <;> first | assumption | omega | (simp_all; done)) | (refine Or.inr (⟨?_, rfl, rfl⟩) <;> first | assumption | omega | (simp_all; done))) (by decide) (by decide) dX1_hasFreeTool_22
set_option maxHeartbeats 4000000 in
set_option maxRecDepth 100000 in
theorem c2_gainedDays (l : Launch) (D : va_G) (cy : Nat → ClassId) (base : Nat) (w : zW) (a : Nat) (k_a : zK w a = 3) : Met l yX2_gainedDays wsX2_gainedDays ({ frames := 0, cells := 0, slots := 0, locals := 0 }) (zPc D cy base (zH D cy base) [.ref a] w) (zQi base (zH D cy base) (fun (r0 : Int32) (u0 : zW) => r0 = (((zI w 204 a) / 5) + (zI w 206 a)) ∧ u0 = w)) 0 0 (fun q => base ≤ q) := by
  refine Met.ofW (cc := cX2_gainedDays) (maxL := 1) (ret := (some .int)) (by decide) rfl ?_
  intro p e s m args below meth c s₁ B9 hml hv
  obtain ⟨rfl, hA, hH⟩ := hv
  have hx := B9.exec
  have hb := B9.bytes
  have hr := B9.returns
  have hts := atoms_spec (ws := wsX2_gainedDays) B9.pre
  have hown : s.vm.findClass RX2 = some m.cls := findClass_of_methodNamed B9.named
  have hlocks := B9.notSynchronized
  have hi2 : ∀ w ∈ wsX20, w ∈ wsX2_gainedDays := by decide +kernel
  have hS : va_S (fun q : Nat => base ≤ q) s.heap s.heap [] := va_S.rf
  have hl := lv_entry ([.ref a]) (n := 1) (Nat.le_of_ble_eq_true rfl)
  rw [lg_entry_eq]
  generalize (lg_sl ([.ref a]) ++ List.replicate (1 - (lg_sl ([.ref a])).length) Slot.unset).toArray = ls at hl ⊢
  have hl : lv_has ls 1 [(0, .ref a)] := hl
  refine lv_aload_n hx hb dX2_gainedDays_0 rfl (lv_at hl 0 rfl) ?_
  refine z_get (C := RX2) (T := TX2) (N := 14) (ci := 2) (index := 37) (v := .int (zI w 204 a)) hx hb hts hi2 hown hA hH (zk0 k_a (by decide)) (zE_k3 k_a) rfl 4 (by decide) (hts (.fieldLink RX2 37 "ParoleCards$Person" "workedDays" "I") (by decide +kernel)) (fun _ h9 => h9) rfl dX2_gainedDays_1 ?_
  refine lv_iconst (v := 5) hx hb dX2_gainedDays_4 (by decide) ?_
  refine lv_idiv hx hb dX2_gainedDays_5 (by decide) ?_
  refine lv_aload_n hx hb dX2_gainedDays_6 rfl (lv_at hl 0 rfl) ?_
  refine z_get (C := RX2) (T := TX2) (N := 14) (ci := 2) (index := 40) (v := .int (zI w 206 a)) hx hb hts hi2 hown hA hH (zk0 k_a (by decide)) (zE_k3 k_a) rfl 6 (by decide) (hts (.fieldLink RX2 40 "ParoleCards$Person" "courseDays" "I") (by decide +kernel)) (fun _ h9 => h9) rfl dX2_gainedDays_7 ?_
  refine lv_iadd hx hb dX2_gainedDays_10 ?_
  exact z_iret hx hb hr hlocks hH hS (by exact ⟨rfl, rfl⟩) (by decide) (by decide) dX2_gainedDays_11
set_option maxHeartbeats 4000000 in
set_option maxRecDepth 100000 in
theorem c2_releaseDay (l : Launch) (D : va_G) (cy : Nat → ClassId) (base : Nat) (w : zW) (a : Nat) (k_a : zK w a = 3) : Met l yX2_releaseDay wsX2_releaseDay ({ frames := 1, cells := 0, slots := 0, locals := 30 }) (zPc D cy base (zH D cy base) [.ref a] w) (zQi base (zH D cy base) (fun (r0 : Int32) (u0 : zW) => (¬ (zI w 212 a) = 0 ∧ r0 = (zI w 213 a) ∧ u0 = w) ∨ ((zI w 212 a) = 0 ∧ r0 = ((((zI w 200 a) + (zI w 201 a)) - (if ((zI w 201 a) / 4) < (((zI w 204 a) / 5) + (zI w 206 a)) then ((zI w 201 a) / 4) else (((zI w 204 a) / 5) + (zI w 206 a)))) + (zI w 209 a)) ∧ u0 = w))) 0 0 (fun q => base ≤ q) := by
  refine Met.ofW (cc := cX2_releaseDay) (maxL := 1) (ret := (some .int)) (by decide) rfl ?_
  intro p e s m args below meth c s₁ B9 hml hv
  obtain ⟨rfl, hA, hH⟩ := hv
  have hx := B9.exec
  have hb := B9.bytes
  have hr := B9.returns
  have hts := atoms_spec (ws := wsX2_releaseDay) B9.pre
  have hown : s.vm.findClass RX2 = some m.cls := findClass_of_methodNamed B9.named
  have hlocks := B9.notSynchronized
  have hi2 : ∀ w ∈ wsX20, w ∈ wsX2_releaseDay := by decide +kernel
  have hS : va_S (fun q : Nat => base ≤ q) s.heap s.heap [] := va_S.rf
  have hl := lv_entry ([.ref a]) (n := 1) (Nat.le_of_ble_eq_true rfl)
  rw [lg_entry_eq]
  generalize (lg_sl ([.ref a]) ++ List.replicate (1 - (lg_sl ([.ref a])).length) Slot.unset).toArray = ls at hl ⊢
  have hl : lv_has ls 1 [(0, .ref a)] := hl
  refine lv_aload_n hx hb dX2_releaseDay_0 rfl (lv_at hl 0 rfl) ?_
  refine z_get (C := RX2) (T := TX2) (N := 14) (ci := 2) (index := 43) (v := .int (zI w 212 a)) hx hb hts hi2 hown hA hH (zk0 k_a (by decide)) (zE_k3 k_a) rfl 12 (by decide) (hts (.fieldLink RX2 43 "ParoleCards$Person" "released" "Z") (by decide +kernel)) (fun _ h9 => h9) rfl dX2_releaseDay_1 ?_
  refine lv_if_eq (tgt := 12) hx hb dX2_releaseDay_4 (by decide) (fun c_1 => ?_) (fun c_1 => ?_)
  · refine lv_aload_n hx hb dX2_releaseDay_12 rfl (lv_at hl 0 rfl) ?_
    refine z_get (C := RX2) (T := TX2) (N := 14) (ci := 2) (index := 28) (v := .int (zI w 200 a)) hx hb hts hi2 hown hA hH (zk0 k_a (by decide)) (zE_k3 k_a) rfl 0 (by decide) (hts (.fieldLink RX2 28 "ParoleCards$Person" "admittedOn" "I") (by decide +kernel)) (fun _ h9 => h9) rfl dX2_releaseDay_13 ?_
    refine lv_aload_n hx hb dX2_releaseDay_16 rfl (lv_at hl 0 rfl) ?_
    refine z_get (C := RX2) (T := TX2) (N := 14) (ci := 2) (index := 31) (v := .int (zI w 201 a)) hx hb hts hi2 hown hA hH (zk0 k_a (by decide)) (zE_k3 k_a) rfl 1 (by decide) (hts (.fieldLink RX2 31 "ParoleCards$Person" "term" "I") (by decide +kernel)) (fun _ h9 => h9) rfl dX2_releaseDay_17 ?_
    refine lv_iadd hx hb dX2_releaseDay_20 ?_
    refine lv_aload_n hx hb dX2_releaseDay_21 rfl (lv_at hl 0 rfl) ?_
    refine z_calli (va_runV (As := []) (rest := [.int ((zI w 200 a) + (zI w 201 a))]) ⟨hx, hb, hml, hown, hts⟩ (c2_gainedDays l D cy base w a k_a) (cwV 0 hts gX2_releaseDay_X2_gainedDays rfl rfl rfl (by decide +kernel) ⟨Nat.le_of_ble_eq_true rfl, Nat.le_of_ble_eq_true rfl⟩) (z_preV hA hS hH (z_recv hA hH (zk0 k_a (by decide)) (zE_k3 k_a) (q := (RX2, TX2, 14)) rfl)) rfl rfl hl.1 rfl (lv_room (Nat.le_of_ble_eq_true rfl)) dX2_releaseDay_22 ⟨Nat.le_of_ble_eq_true rfl, Nat.le_of_ble_eq_true rfl⟩) hS (fun r_k_2 u_k_2 H locs hw_k_2 hH hz_k_2 hS => ?_)
    rcases hw_k_2 with ⟨rfl, hu_k_2⟩
    rw [hu_k_2] at hH
    refine lv_aload_n hx hb dX2_releaseDay_25 rfl (lv_at hl 0 rfl) ?_
    refine z_get (C := RX2) (T := TX2) (N := 14) (ci := 2) (index := 31) (v := .int (zI w 201 a)) hx hb hts hi2 hown hA hH (zk0 k_a (by decide)) (zE_k3 k_a) rfl 1 (by decide) (hts (.fieldLink RX2 31 "ParoleCards$Person" "term" "I") (by decide +kernel)) (fun _ h9 => h9) rfl dX2_releaseDay_26 ?_
    refine lv_iconst (v := 4) hx hb dX2_releaseDay_29 (by decide) ?_
    refine lv_idiv hx hb dX2_releaseDay_30 (by decide) ?_
    refine va_mmin hx hb (hml.trans hl.1.symm) hown (hts (.methodLink RX2 54 Lib.Math.min.name) (by decide +kernel)) (hts (.static Lib.Math.min.name) (by decide +kernel)) (hts (.initialized "java/lang/Math") (by decide +kernel)) (hts (.code Lib.Math.min.name Lib.Math.min.code 2 (some .int)) (by decide +kernel)) (Nat.le_of_ble_eq_true rfl) (Nat.le_of_ble_eq_true rfl) (Nat.le_of_ble_eq_true rfl) (Nat.le_of_ble_eq_true rfl) dX2_releaseDay_31 ?_
    refine lv_isub hx hb dX2_releaseDay_34 ?_
    refine lv_aload_n hx hb dX2_releaseDay_35 rfl (lv_at hl 0 rfl) ?_
    refine z_get (C := RX2) (T := TX2) (N := 14) (ci := 2) (index := 60) (v := .int (zI w 209 a)) hx hb hts hi2 hown hA hH (zk0 k_a (by decide)) (zE_k3 k_a) rfl 9 (by decide) (hts (.fieldLink RX2 60 "ParoleCards$Person" "lostDays" "I") (by decide +kernel)) (fun _ h9 => h9) rfl dX2_releaseDay_36 ?_
    refine lv_iadd hx hb dX2_releaseDay_39 ?_
    exact z_iret hx hb hr hlocks hH hS (by first | contradiction | (refine Or.inl (⟨?_, rfl, rfl⟩) <;> first | assumption | omega | (simp_all; done)) | (refine Or.inr (⟨?_, rfl, rfl⟩) <;> first | assumption | omega | (simp_all; done))) (by decide) (by decide) dX2_releaseDay_40
  · refine lv_aload_n hx hb dX2_releaseDay_7 rfl (lv_at hl 0 rfl) ?_
    refine z_get (C := RX2) (T := TX2) (N := 14) (ci := 2) (index := 47) (v := .int (zI w 213 a)) hx hb hts hi2 hown hA hH (zk0 k_a (by decide)) (zE_k3 k_a) rfl 13 (by decide) (hts (.fieldLink RX2 47 "ParoleCards$Person" "releasedOn" "I") (by decide +kernel)) (fun _ h9 => h9) rfl dX2_releaseDay_8 ?_
    exact z_iret hx hb hr hlocks hH hS (by first | contradiction | (refine Or.inl (⟨?_, rfl, rfl⟩) <;> first | assumption | omega | (simp_all; done)) | (refine Or.inr (⟨?_, rfl, rfl⟩) <;> first | assumption | omega | (simp_all; done))) (by decide) (by decide) dX2_releaseDay_11
set_option maxHeartbeats 4000000 in
set_option maxRecDepth 100000 in
theorem c2_hasSkill (l : Launch) (D : va_G) (cy : Nat → ClassId) (base : Nat) (w : zW) (a : Nat) (sk : Int32) (k_a : zK w a = 3) : Met l yX2_hasSkill wsX2_hasSkill ({ frames := 0, cells := 0, slots := 0, locals := 0 }) (zPc D cy base (zH D cy base) [.ref a, .int sk] w) (zQi base (zH D cy base) (fun (r0 : Int32) (u0 : zW) => (¬ ((zI w 202 a) &&& (1 <<< (sk &&& 31))) = 0 ∧ r0 = 1 ∧ u0 = w) ∨ (((zI w 202 a) &&& (1 <<< (sk &&& 31))) = 0 ∧ r0 = 0 ∧ u0 = w))) 0 0 (fun q => base ≤ q) := by
  refine Met.ofW (cc := cX2_hasSkill) (maxL := 2) (ret := (some .boolean)) (by decide) rfl ?_
  intro p e s m args below meth c s₁ B9 hml hv
  obtain ⟨rfl, hA, hH⟩ := hv
  have hx := B9.exec
  have hb := B9.bytes
  have hr := B9.returns
  have hts := atoms_spec (ws := wsX2_hasSkill) B9.pre
  have hown : s.vm.findClass RX2 = some m.cls := findClass_of_methodNamed B9.named
  have hlocks := B9.notSynchronized
  have hi2 : ∀ w ∈ wsX20, w ∈ wsX2_hasSkill := by decide +kernel
  have hS : va_S (fun q : Nat => base ≤ q) s.heap s.heap [] := va_S.rf
  have hl := lv_entry ([.ref a, .int sk]) (n := 2) (Nat.le_of_ble_eq_true rfl)
  rw [lg_entry_eq]
  generalize (lg_sl ([.ref a, .int sk]) ++ List.replicate (2 - (lg_sl ([.ref a, .int sk])).length) Slot.unset).toArray = ls at hl ⊢
  have hl : lv_has ls 2 [(0, .ref a), (1, .int sk)] := hl
  refine lv_aload_n hx hb dX2_hasSkill_0 rfl (lv_at hl 0 rfl) ?_
  refine z_get (C := RX2) (T := TX2) (N := 14) (ci := 2) (index := 34) (v := .int (zI w 202 a)) hx hb hts hi2 hown hA hH (zk0 k_a (by decide)) (zE_k3 k_a) rfl 2 (by decide) (hts (.fieldLink RX2 34 "ParoleCards$Person" "skills" "I") (by decide +kernel)) (fun _ h9 => h9) rfl dX2_hasSkill_1 ?_
  refine lv_iconst (v := 1) hx hb dX2_hasSkill_4 (by decide) ?_
  refine lv_iload_n hx hb dX2_hasSkill_5 rfl (lv_at hl 1 rfl) ?_
  refine lv_ishl hx hb dX2_hasSkill_6 ?_
  refine lv_iand hx hb dX2_hasSkill_7 ?_
  refine lv_if_eq (tgt := 15) hx hb dX2_hasSkill_8 (by decide) (fun c_1 => ?_) (fun c_1 => ?_)
  · refine lv_iconst (v := 0) hx hb dX2_hasSkill_15 (by decide) ?_
    exact z_zret hx hb hr hlocks hH hS rfl (by first | contradiction | (refine Or.inl (⟨?_, rfl, rfl⟩) <;> first | assumption | omega | (simp_all; done)) | (refine Or.inr (⟨?_, rfl, rfl⟩) <;> first | assumption | omega | (simp_all; done))) (by decide) (by decide) dX2_hasSkill_16
  · refine lv_iconst (v := 1) hx hb dX2_hasSkill_11 (by decide) ?_
    refine lv_goto (tgt := 16) hx hb dX2_hasSkill_12 (by decide) ?_
    exact z_zret hx hb hr hlocks hH hS rfl (by first | contradiction | (refine Or.inl (⟨?_, rfl, rfl⟩) <;> first | assumption | omega | (simp_all; done)) | (refine Or.inr (⟨?_, rfl, rfl⟩) <;> first | assumption | omega | (simp_all; done))) (by decide) (by decide) dX2_hasSkill_16
set_option maxHeartbeats 4000000 in
set_option maxRecDepth 100000 in
theorem c2_hasRoom (l : Launch) (D : va_G) (cy : Nat → ClassId) (base : Nat) (w : zW) (a : Nat) (k_a : zK w a = 3) : Met l yX2_hasRoomForPaper wsX2_hasRoomForPaper ({ frames := 0, cells := 0, slots := 0, locals := 0 }) (zPc D cy base (zH D cy base) [.ref a] w) (zQi base (zH D cy base) (fun (r0 : Int32) (u0 : zW) => (((zI w 205 a) + (zI w 208 a)) < 50 ∧ r0 = 1 ∧ u0 = w) ∨ (¬ ((zI w 205 a) + (zI w 208 a)) < 50 ∧ r0 = 0 ∧ u0 = w))) 0 0 (fun q => base ≤ q) := by
  refine Met.ofW (cc := cX2_hasRoomForPaper) (maxL := 1) (ret := (some .boolean)) (by decide) rfl ?_
  intro p e s m args below meth c s₁ B9 hml hv
  obtain ⟨rfl, hA, hH⟩ := hv
  have hx := B9.exec
  have hb := B9.bytes
  have hr := B9.returns
  have hts := atoms_spec (ws := wsX2_hasRoomForPaper) B9.pre
  have hown : s.vm.findClass RX2 = some m.cls := findClass_of_methodNamed B9.named
  have hlocks := B9.notSynchronized
  have hi2 : ∀ w ∈ wsX20, w ∈ wsX2_hasRoomForPaper := by decide +kernel
  have hS : va_S (fun q : Nat => base ≤ q) s.heap s.heap [] := va_S.rf
  have hl := lv_entry ([.ref a]) (n := 1) (Nat.le_of_ble_eq_true rfl)
  rw [lg_entry_eq]
  generalize (lg_sl ([.ref a]) ++ List.replicate (1 - (lg_sl ([.ref a])).length) Slot.unset).toArray = ls at hl ⊢
  have hl : lv_has ls 1 [(0, .ref a)] := hl
  refine lv_aload_n hx hb dX2_hasRoomForPaper_0 rfl (lv_at hl 0 rfl) ?_
  refine z_get (C := RX2) (T := TX2) (N := 14) (ci := 2) (index := 63) (v := .int (zI w 205 a)) hx hb hts hi2 hown hA hH (zk0 k_a (by decide)) (zE_k3 k_a) rfl 5 (by decide) (hts (.fieldLink RX2 63 "ParoleCards$Person" "courseCount" "I") (by decide +kernel)) (fun _ h9 => h9) rfl dX2_hasRoomForPaper_1 ?_
  refine lv_aload_n hx hb dX2_hasRoomForPaper_4 rfl (lv_at hl 0 rfl) ?_
  refine z_get (C := RX2) (T := TX2) (N := 14) (ci := 2) (index := 66) (v := .int (zI w 208 a)) hx hb hts hi2 hown hA hH (zk0 k_a (by decide)) (zE_k3 k_a) rfl 8 (by decide) (hts (.fieldLink RX2 66 "ParoleCards$Person" "offenceCount" "I") (by decide +kernel)) (fun _ h9 => h9) rfl dX2_hasRoomForPaper_5 ?_
  refine lv_iadd hx hb dX2_hasRoomForPaper_8 ?_
  refine lv_bipush (v := 50) hx hb dX2_hasRoomForPaper_9 (by decide) ?_
  refine lv_icmp_ge (tgt := 18) hx hb dX2_hasRoomForPaper_11 (by decide) (fun c_1 => ?_) (fun c_1 => ?_)
  · refine lv_iconst (v := 0) hx hb dX2_hasRoomForPaper_18 (by decide) ?_
    exact z_zret hx hb hr hlocks hH hS rfl (by first | contradiction | (refine Or.inl (⟨?_, rfl, rfl⟩) <;> first | assumption | omega | (simp_all; done)) | (refine Or.inr (⟨?_, rfl, rfl⟩) <;> first | assumption | omega | (simp_all; done))) (by decide) (by decide) dX2_hasRoomForPaper_19
  · refine lv_iconst (v := 1) hx hb dX2_hasRoomForPaper_14 (by decide) ?_
    refine lv_goto (tgt := 19) hx hb dX2_hasRoomForPaper_15 (by decide) ?_
    exact z_zret hx hb hr hlocks hH hS rfl (by first | contradiction | (refine Or.inl (⟨?_, rfl, rfl⟩) <;> first | assumption | omega | (simp_all; done)) | (refine Or.inr (⟨?_, rfl, rfl⟩) <;> first | assumption | omega | (simp_all; done))) (by decide) (by decide) dX2_hasRoomForPaper_19
set_option maxHeartbeats 4000000 in
set_option maxRecDepth 100000 in
theorem c2_raiseRegime (l : Launch) (D : va_G) (cy : Nat → ClassId) (base : Nat) (w : zW) (a : Nat) (k_a : zK w a = 3) : Met l yX2_raiseRegime wsX2_raiseRegime ({ frames := 1, cells := 0, slots := 0, locals := 30 }) (zPc D cy base (zH D cy base) [.ref a] w) (zQv base (zH D cy base) (fun (u0 : zW) => u0 = (zsI w 203 a (if 2 < ((zI w 203 a) + 1) then 2 else ((zI w 203 a) + 1))))) 0 0 (fun q => base ≤ q) := by
  refine Met.ofW (cc := cX2_raiseRegime) (maxL := 1) (ret := none) (by decide) rfl ?_
  intro p e s m args below meth c s₁ B9 hml hv
  obtain ⟨rfl, hA, hH⟩ := hv
  have hx := B9.exec
  have hb := B9.bytes
  have hr := B9.returns
  have hts := atoms_spec (ws := wsX2_raiseRegime) B9.pre
  have hown : s.vm.findClass RX2 = some m.cls := findClass_of_methodNamed B9.named
  have hlocks := B9.notSynchronized
  have hi2 : ∀ w ∈ wsX20, w ∈ wsX2_raiseRegime := by decide +kernel
  have hS : va_S (fun q : Nat => base ≤ q) s.heap s.heap [] := va_S.rf
  have hl := lv_entry ([.ref a]) (n := 1) (Nat.le_of_ble_eq_true rfl)
  rw [lg_entry_eq]
  generalize (lg_sl ([.ref a]) ++ List.replicate (1 - (lg_sl ([.ref a])).length) Slot.unset).toArray = ls at hl ⊢
  have hl : lv_has ls 1 [(0, .ref a)] := hl
  refine lv_aload_n hx hb dX2_raiseRegime_0 rfl (lv_at hl 0 rfl) ?_
  refine lv_aload_n hx hb dX2_raiseRegime_1 rfl (lv_at hl 0 rfl) ?_
  refine z_get (C := RX2) (T := TX2) (N := 14) (ci := 2) (index := 9) (v := .int (zI w 203 a)) hx hb hts hi2 hown hA hH (zk0 k_a (by decide)) (zE_k3 k_a) rfl 3 (by decide) (hts (.fieldLink RX2 9 "ParoleCards$Person" "regimeNow" "I") (by decide +kernel)) (fun _ h9 => h9) rfl dX2_raiseRegime_2 ?_
  refine lv_iconst (v := 1) hx hb dX2_raiseRegime_5 (by decide) ?_
  refine lv_iadd hx hb dX2_raiseRegime_6 ?_
  refine lv_iconst (v := 2) hx hb dX2_raiseRegime_7 (by decide) ?_
  refine va_mmin hx hb (hml.trans hl.1.symm) hown (hts (.methodLink RX2 54 Lib.Math.min.name) (by decide +kernel)) (hts (.static Lib.Math.min.name) (by decide +kernel)) (hts (.initialized "java/lang/Math") (by decide +kernel)) (hts (.code Lib.Math.min.name Lib.Math.min.code 2 (some .int)) (by decide +kernel)) (Nat.le_of_ble_eq_true rfl) (Nat.le_of_ble_eq_true rfl) (Nat.le_of_ble_eq_true rfl) (Nat.le_of_ble_eq_true rfl) dX2_raiseRegime_8 ?_
  refine z_put (C := RX2) (T := TX2) (N := 14) (ci := 2) (index := 9) (v := .int (if 2 < ((zI w 203 a) + 1) then 2 else ((zI w 203 a) + 1))) (ty := .int) hx hb hts hi2 tyX2 tyX2_ok nmX2 hown hA hH hS (zk0 k_a (by decide)) (zE_k3 k_a) rfl 3 (by decide) (hts (.fieldLink RX2 9 "ParoleCards$Person" "regimeNow" "I") (by decide +kernel)) (fun _ h9 => h9) rfl (by decide +kernel) rfl rfl (Nat.le_of_ble_eq_true rfl) (w' := zsI w 203 a (if 2 < ((zI w 203 a) + 1) then 2 else ((zI w 203 a) + 1))) (zs_203 (w := w) k_a _) (zsI_oth w 203 a _) (fun _ => rfl) dX2_raiseRegime_11 (fun H locs hH hS => ?_)
  exact z_vret hx hb hr hlocks hH hS (by exact rfl) (by decide) (by decide) dX2_raiseRegime_14
set_option maxHeartbeats 4000000 in
set_option maxRecDepth 100000 in
theorem c2_enterCourse (l : Launch) (hl9 : l.stackTraces = false) (D : va_G) (cy : Nat → ClassId) (base : Nat) (w : zW) (a : Nat) (sk : Int32) (days : Int32) (k_a : zK w a = 3) : vx_Met l yX2_enterCourse wsX2_enterCourse ({ frames := 6, cells := 1, slots := 6, locals := 90 }) (zPc D cy base (zH D cy base) [.ref a, .int sk, .int days] w) (zQv base (zH D cy base) (fun (u0 : zW) => ((zI w 205 a) + (zI w 208 a)) < 50 ∧ u0 = (zsI (zsI (zsI (zsI w 202 a ((zI w 202 a) ||| (1 <<< (sk &&& 31)))) 205 a ((zI w 205 a) + 1)) 206 a ((zI w 206 a) + days)) 203 a (if 2 < ((zI w 203 a) + 1) then 2 else ((zI w 203 a) + 1))))) (zXC base (zH D cy base) (fun (E : String) (u0 : zW) => ¬ ((zI w 205 a) + (zI w 208 a)) < 50 ∧ E = zIse ∧ u0 = w)) 1 6 (fun q => base ≤ q) := by
  refine vx_ofW (cc := cX2_enterCourse) (maxL := 3) (ret := none) (by decide) rfl ?_
  intro p e s m args below meth c s₁ B9 hml htab hv
  obtain ⟨rfl, hA, hH⟩ := hv
  have hx := B9.exec
  have hb := B9.bytes
  have hr := B9.returns
  have hts := atoms_spec (ws := wsX2_enterCourse) B9.pre
  have hown : s.vm.findClass RX2 = some m.cls := findClass_of_methodNamed B9.named
  have hlocks := B9.notSynchronized
  have hi2 : ∀ w ∈ wsX20, w ∈ wsX2_enterCourse := by decide +kernel
  have hat_77 : ∀ w ∈ (vx_atS RX2 77 zIse zUp).filter goodWord, w ∈ wsX2_enterCourse := fun _ h => List.mem_cons_of_mem _ (List.mem_append_right _ h)
  have hS : va_S (fun q : Nat => base ≤ q) s.heap s.heap [] := va_S.rf
  have hl := lv_entry ([.ref a, .int sk, .int days]) (n := 3) (Nat.le_of_ble_eq_true rfl)
  rw [lg_entry_eq]
  generalize (lg_sl ([.ref a, .int sk, .int days]) ++ List.replicate (3 - (lg_sl ([.ref a, .int sk, .int days])).length) Slot.unset).toArray = ls at hl ⊢
  have hl : lv_has ls 3 [(0, .ref a), (1, .int sk), (2, .int days)] := hl
  refine lv_aload_n hx hb dX2_enterCourse_0 rfl (lv_at hl 0 rfl) ?_
  refine z_calli (va_runV (As := []) (rest := []) ⟨hx, hb, hml, hown, hts⟩ (c2_hasRoom l D cy base w a k_a) (cwV 0 hts gX2_enterCourse_X2_hasRoomForPaper rfl rfl rfl (by decide +kernel) ⟨Nat.le_of_ble_eq_true rfl, Nat.le_of_ble_eq_true rfl⟩) (z_preV hA hS hH (z_recv hA hH (zk0 k_a (by decide)) (zE_k3 k_a) (q := (RX2, TX2, 14)) rfl)) rfl rfl hl.1 rfl (lv_room (Nat.le_of_ble_eq_true rfl)) dX2_enterCourse_1 ⟨Nat.le_of_ble_eq_true rfl, Nat.le_of_ble_eq_true rfl⟩) hS (fun r_k_1 u_k_1 H locs hw_k_1 hH hz_k_1 hS => ?_)
  rcases hw_k_1 with ⟨h_k_1_0, rfl, hu_k_1⟩ | ⟨h_k_1_0, rfl, hu_k_1⟩
  · rw [hu_k_1] at hH
    refine lv_if_ne (tgt := 17) hx hb dX2_enterCourse_4 (by decide) (fun _ => ?_) (fun c_2 => absurd c_2 (by decide))
    refine lv_aload_n hx hb dX2_enterCourse_17 rfl (lv_at hl 0 rfl) ?_
    refine lv_dup hx hb dX2_enterCourse_18 rfl ?_
    refine z_get (C := RX2) (T := TX2) (N := 14) (ci := 2) (index := 34) (v := .int (zI w 202 a)) hx hb hts hi2 hown hA hH (zk0 k_a (by decide)) (zE_k3 k_a) rfl 2 (by decide) (hts (.fieldLink RX2 34 "ParoleCards$Person" "skills" "I") (by decide +kernel)) (fun _ h9 => h9) rfl dX2_enterCourse_19 ?_
    refine lv_iconst (v := 1) hx hb dX2_enterCourse_22 (by decide) ?_
    refine lv_iload_n hx hb dX2_enterCourse_23 rfl (lv_at hl 1 rfl) ?_
    refine lv_ishl hx hb dX2_enterCourse_24 ?_
    refine lv_ior hx hb dX2_enterCourse_25 ?_
    refine z_put (C := RX2) (T := TX2) (N := 14) (ci := 2) (index := 34) (v := .int ((zI w 202 a) ||| (1 <<< (sk &&& 31)))) (ty := .int) hx hb hts hi2 tyX2 tyX2_ok nmX2 hown hA hH hS (zk0 k_a (by decide)) (zE_k3 k_a) rfl 2 (by decide) (hts (.fieldLink RX2 34 "ParoleCards$Person" "skills" "I") (by decide +kernel)) (fun _ h9 => h9) rfl (by decide +kernel) rfl rfl (Nat.le_of_ble_eq_true rfl) (w' := zsI w 202 a ((zI w 202 a) ||| (1 <<< (sk &&& 31)))) (zs_202 (w := w) k_a _) (zsI_oth w 202 a _) (fun _ => rfl) dX2_enterCourse_26 (fun H locs hH hS => ?_)
    refine lv_aload_n hx hb dX2_enterCourse_29 rfl (lv_at hl 0 rfl) ?_
    refine lv_dup hx hb dX2_enterCourse_30 rfl ?_
    refine z_get (C := RX2) (T := TX2) (N := 14) (ci := 2) (index := 63) (v := .int (zI w 205 a)) hx hb hts hi2 hown hA hH (zk0 k_a (by decide)) (zE_k3 k_a) rfl 5 (by decide) (hts (.fieldLink RX2 63 "ParoleCards$Person" "courseCount" "I") (by decide +kernel)) (fun _ h9 => h9) rfl dX2_enterCourse_31 ?_
    refine lv_iconst (v := 1) hx hb dX2_enterCourse_34 (by decide) ?_
    refine lv_iadd hx hb dX2_enterCourse_35 ?_
    refine z_put (C := RX2) (T := TX2) (N := 14) (ci := 2) (index := 63) (v := .int ((zI w 205 a) + 1)) (ty := .int) hx hb hts hi2 tyX2 tyX2_ok nmX2 hown hA hH hS (zk0 k_a (by decide)) (zE_k3 k_a) rfl 5 (by decide) (hts (.fieldLink RX2 63 "ParoleCards$Person" "courseCount" "I") (by decide +kernel)) (fun _ h9 => h9) rfl (by decide +kernel) rfl rfl (Nat.le_of_ble_eq_true rfl) (w' := zsI (zsI w 202 a ((zI w 202 a) ||| (1 <<< (sk &&& 31)))) 205 a ((zI w 205 a) + 1)) (zs_205 (w := (zsI w 202 a ((zI w 202 a) ||| (1 <<< (sk &&& 31))))) k_a _) (zsI_oth (zsI w 202 a ((zI w 202 a) ||| (1 <<< (sk &&& 31)))) 205 a _) (fun _ => rfl) dX2_enterCourse_36 (fun H locs hH hS => ?_)
    refine lv_aload_n hx hb dX2_enterCourse_39 rfl (lv_at hl 0 rfl) ?_
    refine lv_dup hx hb dX2_enterCourse_40 rfl ?_
    refine z_get (C := RX2) (T := TX2) (N := 14) (ci := 2) (index := 40) (v := .int (zI w 206 a)) hx hb hts hi2 hown hA hH (zk0 k_a (by decide)) (zE_k3 k_a) rfl 6 (by decide) (hts (.fieldLink RX2 40 "ParoleCards$Person" "courseDays" "I") (by decide +kernel)) (fun _ h9 => h9) rfl dX2_enterCourse_41 ?_
    refine lv_iload_n hx hb dX2_enterCourse_44 rfl (lv_at hl 2 rfl) ?_
    refine lv_iadd hx hb dX2_enterCourse_45 ?_
    refine z_put (C := RX2) (T := TX2) (N := 14) (ci := 2) (index := 40) (v := .int ((zI w 206 a) + days)) (ty := .int) hx hb hts hi2 tyX2 tyX2_ok nmX2 hown hA hH hS (zk0 k_a (by decide)) (zE_k3 k_a) rfl 6 (by decide) (hts (.fieldLink RX2 40 "ParoleCards$Person" "courseDays" "I") (by decide +kernel)) (fun _ h9 => h9) rfl (by decide +kernel) rfl rfl (Nat.le_of_ble_eq_true rfl) (w' := zsI (zsI (zsI w 202 a ((zI w 202 a) ||| (1 <<< (sk &&& 31)))) 205 a ((zI w 205 a) + 1)) 206 a ((zI w 206 a) + days)) (zs_206 (w := (zsI (zsI w 202 a ((zI w 202 a) ||| (1 <<< (sk &&& 31)))) 205 a ((zI w 205 a) + 1))) k_a _) (zsI_oth (zsI (zsI w 202 a ((zI w 202 a) ||| (1 <<< (sk &&& 31)))) 205 a ((zI w 205 a) + 1)) 206 a _) (fun _ => rfl) dX2_enterCourse_46 (fun H locs hH hS => ?_)
    refine lv_aload_n hx hb dX2_enterCourse_49 rfl (lv_at hl 0 rfl) ?_
    refine z_callv (va_runV (As := []) (rest := []) ⟨hx, hb, hml, hown, hts⟩ (c2_raiseRegime l D cy base (zsI (zsI (zsI w 202 a ((zI w 202 a) ||| (1 <<< (sk &&& 31)))) 205 a ((zI w 205 a) + 1)) 206 a ((zI w 206 a) + days)) a k_a) (cwV 0 hts gX2_enterCourse_X2_raiseRegime rfl rfl rfl (by decide +kernel) ⟨Nat.le_of_ble_eq_true rfl, Nat.le_of_ble_eq_true rfl⟩) (z_preV hA hS hH (z_recv hA hH (zk0 k_a (by decide)) (zE_k3 k_a) (q := (RX2, TX2, 14)) rfl)) rfl rfl hl.1 rfl (lv_room (Nat.le_of_ble_eq_true rfl)) dX2_enterCourse_50 ⟨Nat.le_of_ble_eq_true rfl, Nat.le_of_ble_eq_true rfl⟩) hS (fun u_k_3 H locs hw_k_3 hH hz_k_3 hS => ?_)
    have hu_k_3 := hw_k_3
    rw [hu_k_3] at hH
    refine vx_ret ?_
    exact z_vret hx hb hr hlocks hH hS (by (refine ⟨?_, rfl⟩ <;> first | assumption | omega | (simp_all; done))) (by decide) (by decide) dX2_enterCourse_53
  · rw [hu_k_1] at hH
    refine lv_if_ne (tgt := 17) hx hb dX2_enterCourse_4 (by decide) (fun c_4 => absurd c_4 (by decide)) (fun _ => ?_)
    exact z_throwS (cls := zIse) (text := "the person has no room for another paper") (is := 75) (ic := 77) (ik := 73) hx hb hl9 hown (by decide +kernel) (hts (.classLink RX2 73 "java/lang/IllegalStateException") (by decide +kernel)) (hts (.initialized "java/lang/IllegalStateException") (by decide +kernel)) hA (by decide +kernel) (fun w9 h9 => hts w9 (hat_77 w9 h9)) (by decide +kernel) (by decide +kernel) hH hS (hl.1.trans hml.symm) dX2_enterCourse_7 dX2_enterCourse_10 dX2_enterCourse_11 dX2_enterCourse_13 dX2_enterCourse_16 htab (Nat.le_of_ble_eq_true rfl) (Nat.le_of_ble_eq_true rfl) (Nat.le_of_ble_eq_true rfl) (Nat.le_of_ble_eq_true rfl) hlocks (by (refine ⟨?_, rfl, rfl⟩ <;> first | assumption | omega | (simp_all; done))) (by decide) (by decide)
set_option maxHeartbeats 4000000 in
set_option maxRecDepth 100000 in
theorem c2_leaveOrder_n (l : Launch) (D : va_G) (cy : Nat → ClassId) (base : Nat) (w : zW) (a : Nat) (k_a : zK w a = 3) (p210_a : zP w 210 a = none) : Met l yX2_leaveOrder wsX2_leaveOrder ({ frames := 0, cells := 0, slots := 0, locals := 0 }) (zPc D cy base (zH D cy base) [.ref a] w) (zQv base (zH D cy base) (fun (u0 : zW) => u0 = w)) 0 0 (fun q => base ≤ q) := by
  refine Met.ofW (cc := cX2_leaveOrder) (maxL := 2) (ret := none) (by decide) rfl ?_
  intro p e s m args below meth c s₁ B9 hml hv
  obtain ⟨rfl, hA, hH⟩ := hv
  have hx := B9.exec
  have hb := B9.bytes
  have hr := B9.returns
  have hts := atoms_spec (ws := wsX2_leaveOrder) B9.pre
  have hown : s.vm.findClass RX2 = some m.cls := findClass_of_methodNamed B9.named
  have hlocks := B9.notSynchronized
  have hi2 : ∀ w ∈ wsX20, w ∈ wsX2_leaveOrder := by decide +kernel
  have hS : va_S (fun q : Nat => base ≤ q) s.heap s.heap [] := va_S.rf
  have hl := lv_entry ([.ref a]) (n := 2) (Nat.le_of_ble_eq_true rfl)
  rw [lg_entry_eq]
  generalize (lg_sl ([.ref a]) ++ List.replicate (2 - (lg_sl ([.ref a])).length) Slot.unset).toArray = ls at hl ⊢
  have hl : lv_has ls 2 [(0, .ref a)] := hl
  refine lv_aload_n hx hb dX2_leaveOrder_0 rfl (lv_at hl 0 rfl) ?_
  refine z_get (C := RX2) (T := TX2) (N := 14) (ci := 2) (index := 98) (v := .null) hx hb hts hi2 hown hA hH (zk0 k_a (by decide)) (zE_k3 k_a) rfl 10 (by decide) (hts (.fieldLink RX2 98 "ParoleCards$Person" "order" "LParoleCards$Order;") (by decide +kernel)) (fun _ h9 => h9) (congrArg (fun z => some (va_rf z)) p210_a) dX2_leaveOrder_1 ?_
  refine lv_astore_nN (lv' := [(1, .null), (0, .ref a)]) hx hb dX2_leaveOrder_4 rfl hl (by decide) rfl (fun ls hl => ?_)
  refine lv_aload_nN hx hb dX2_leaveOrder_5 rfl (lv_at hl 0 rfl) ?_
  refine lv_ifnullN (tgt := 37) hx hb dX2_leaveOrder_6 (by decide) ?_
  exact z_vret hx hb hr hlocks hH hS (by exact rfl) (by decide) (by decide) dX2_leaveOrder_37
set_option maxHeartbeats 4000000 in
set_option maxRecDepth 100000 in
theorem c2_leaveOrder_s (l : Launch) (D : va_G) (cy : Nat → ClassId) (base : Nat) (w : zW) (a : Nat) (o : Nat) (t : Nat) (k_a : zK w a = 3) (p210_a : zP w 210 a = some o) (k_o : zK w o = 2) (p102_o : zP w 102 o = some t) (k_t : zK w t = 5) : Met l yX2_leaveOrder wsX2_leaveOrder ({ frames := 0, cells := 0, slots := 0, locals := 0 }) (zPc D cy base (zH D cy base) [.ref a] w) (zQv base (zH D cy base) (fun (u0 : zW) => u0 = (zsP (zsI (zsI w 105 o ((zI w 105 o) - 1)) 401 t ((zI w 401 t) - 1)) 210 a none))) 0 0 (fun q => base ≤ q) := by
  refine Met.ofW (cc := cX2_leaveOrder) (maxL := 2) (ret := none) (by decide) rfl ?_
  intro p e s m args below meth c s₁ B9 hml hv
  obtain ⟨rfl, hA, hH⟩ := hv
  have hx := B9.exec
  have hb := B9.bytes
  have hr := B9.returns
  have hts := atoms_spec (ws := wsX2_leaveOrder) B9.pre
  have hown : s.vm.findClass RX2 = some m.cls := findClass_of_methodNamed B9.named
  have hlocks := B9.notSynchronized
  have hi1 : ∀ w ∈ wsX10, w ∈ wsX2_leaveOrder := by decide +kernel
  have hi2 : ∀ w ∈ wsX20, w ∈ wsX2_leaveOrder := by decide +kernel
  have hi4 : ∀ w ∈ wsX40, w ∈ wsX2_leaveOrder := by decide +kernel
  have hS : va_S (fun q : Nat => base ≤ q) s.heap s.heap [] := va_S.rf
  have hl := lv_entry ([.ref a]) (n := 2) (Nat.le_of_ble_eq_true rfl)
  rw [lg_entry_eq]
  generalize (lg_sl ([.ref a]) ++ List.replicate (2 - (lg_sl ([.ref a])).length) Slot.unset).toArray = ls at hl ⊢
  have hl : lv_has ls 2 [(0, .ref a)] := hl
  refine lv_aload_n hx hb dX2_leaveOrder_0 rfl (lv_at hl 0 rfl) ?_
  refine z_get (C := RX2) (T := TX2) (N := 14) (ci := 2) (index := 98) (v := .ref o) hx hb hts hi2 hown hA hH (zk0 k_a (by decide)) (zE_k3 k_a) rfl 10 (by decide) (hts (.fieldLink RX2 98 "ParoleCards$Person" "order" "LParoleCards$Order;") (by decide +kernel)) (fun _ h9 => h9) (congrArg (fun z => some (va_rf z)) p210_a) dX2_leaveOrder_1 ?_
  refine lv_astore_n (lv' := [(1, .ref o), (0, .ref a)]) hx hb dX2_leaveOrder_4 rfl hl (by decide) rfl (fun ls hl => ?_)
  refine lv_aload_n hx hb dX2_leaveOrder_5 rfl (lv_at hl 0 rfl) ?_
  refine lv_ifnull hx hb dX2_leaveOrder_6 ?_
  refine lv_aload_n hx hb dX2_leaveOrder_9 rfl (lv_at hl 0 rfl) ?_
  refine lv_dup hx hb dX2_leaveOrder_10 rfl ?_
  refine z_get (C := RX1) (T := TX1) (N := 6) (ci := 1) (index := 102) (v := .int (zI w 105 o)) hx hb hts hi1 hown hA hH (zk0 k_o (by decide)) (zE_k2 k_o) rfl 5 (by decide) (hts (.fieldLink RX2 102 "ParoleCards$Order" "peopleOnIt" "I") (by decide +kernel)) (fun _ h9 => h9) rfl dX2_leaveOrder_11 ?_
  refine lv_iconst (v := 1) hx hb dX2_leaveOrder_14 (by decide) ?_
  refine lv_isub hx hb dX2_leaveOrder_15 ?_
  refine z_put (C := RX1) (T := TX1) (N := 6) (ci := 1) (index := 102) (v := .int ((zI w 105 o) - 1)) (ty := .int) hx hb hts hi1 tyX1 tyX1_ok nmX1 hown hA hH hS (zk0 k_o (by decide)) (zE_k2 k_o) rfl 5 (by decide) (hts (.fieldLink RX2 102 "ParoleCards$Order" "peopleOnIt" "I") (by decide +kernel)) (fun _ h9 => h9) rfl (by decide +kernel) rfl rfl (Nat.le_of_ble_eq_true rfl) (w' := zsI w 105 o ((zI w 105 o) - 1)) (zs_105 (w := w) k_o _) (zsI_oth w 105 o _) (fun _ => rfl) dX2_leaveOrder_16 (fun H locs hH hS => ?_)
  refine lv_aload_n hx hb dX2_leaveOrder_19 rfl (lv_at hl 0 rfl) ?_
  refine z_get (C := RX1) (T := TX1) (N := 6) (ci := 1) (index := 107) (v := .ref t) hx hb hts hi1 hown hA hH (zk0 k_o (by decide)) (zE_k2 k_o) rfl 2 (by decide) (hts (.fieldLink RX2 107 "ParoleCards$Order" "tools" "LParoleCards$ToolKind;") (by decide +kernel)) (fun _ h9 => h9) (congrArg (fun z => some (va_rf z)) p102_o) dX2_leaveOrder_20 ?_
  refine lv_dup hx hb dX2_leaveOrder_23 rfl ?_
  refine z_get (C := RX4) (T := TX4) (N := 2) (ci := 4) (index := 111) (v := .int (zI w 401 t)) hx hb hts hi4 hown hA hH (zk0 k_t (by decide)) (zE_k5 k_t) rfl 1 (by decide) (hts (.fieldLink RX2 111 "ParoleCards$ToolKind" "countedOut" "I") (by decide +kernel)) (fun _ h9 => h9) rfl dX2_leaveOrder_24 ?_
  refine lv_iconst (v := 1) hx hb dX2_leaveOrder_27 (by decide) ?_
  refine lv_isub hx hb dX2_leaveOrder_28 ?_
  refine z_put (C := RX4) (T := TX4) (N := 2) (ci := 4) (index := 111) (v := .int ((zI w 401 t) - 1)) (ty := .int) hx hb hts hi4 tyX4 tyX4_ok nmX4 hown hA hH hS (zk0 k_t (by decide)) (zE_k5 k_t) rfl 1 (by decide) (hts (.fieldLink RX2 111 "ParoleCards$ToolKind" "countedOut" "I") (by decide +kernel)) (fun _ h9 => h9) rfl (by decide +kernel) rfl rfl (Nat.le_of_ble_eq_true rfl) (w' := zsI (zsI w 105 o ((zI w 105 o) - 1)) 401 t ((zI w 401 t) - 1)) (zs_401 (w := (zsI w 105 o ((zI w 105 o) - 1))) k_t _) (zsI_oth (zsI w 105 o ((zI w 105 o) - 1)) 401 t _) (fun _ => rfl) dX2_leaveOrder_29 (fun H locs hH hS => ?_)
  refine lv_aload_n hx hb dX2_leaveOrder_32 rfl (lv_at hl 1 rfl) ?_
  refine lv_null hx hb dX2_leaveOrder_33 ?_
  refine z_put (C := RX2) (T := TX2) (N := 14) (ci := 2) (index := 98) (v := .null) (ty := .object "ParoleCards$Order") hx hb hts hi2 tyX2 tyX2_ok nmX2 hown hA hH hS (zk0 k_a (by decide)) (zE_k3 k_a) rfl 10 (by decide) (hts (.fieldLink RX2 98 "ParoleCards$Person" "order" "LParoleCards$Order;") (by decide +kernel)) (fun _ h9 => h9) rfl (by decide +kernel) rfl rfl (Nat.le_of_ble_eq_true rfl) (w' := zsP (zsI (zsI w 105 o ((zI w 105 o) - 1)) 401 t ((zI w 401 t) - 1)) 210 a none) (zs_210 (w := (zsI (zsI w 105 o ((zI w 105 o) - 1)) 401 t ((zI w 401 t) - 1))) k_a _) (zsP_oth (zsI (zsI w 105 o ((zI w 105 o) - 1)) 401 t ((zI w 401 t) - 1)) 210 a _) (fun _ => rfl) dX2_leaveOrder_34 (fun H locs hH hS => ?_)
  exact z_vret hx hb hr hlocks hH hS (by exact rfl) (by decide) (by decide) dX2_leaveOrder_37
set_option maxHeartbeats 4000000 in
set_option maxRecDepth 100000 in
theorem c2_leaveFin_n (l : Launch) (D : va_G) (cy : Nat → ClassId) (base : Nat) (w : zW) (a : Nat) (k_a : zK w a = 3) (p210_a : zP w 210 a = none) : Met l yX2_leaveFinishedOrder wsX2_leaveFinishedOrder ({ frames := 0, cells := 0, slots := 0, locals := 0 }) (zPc D cy base (zH D cy base) [.ref a] w) (zQv base (zH D cy base) (fun (u0 : zW) => u0 = w)) 0 0 (fun q => base ≤ q) := by
  refine Met.ofW (cc := cX2_leaveFinishedOrder) (maxL := 2) (ret := none) (by decide) rfl ?_
  intro p e s m args below meth c s₁ B9 hml hv
  obtain ⟨rfl, hA, hH⟩ := hv
  have hx := B9.exec
  have hb := B9.bytes
  have hr := B9.returns
  have hts := atoms_spec (ws := wsX2_leaveFinishedOrder) B9.pre
  have hown : s.vm.findClass RX2 = some m.cls := findClass_of_methodNamed B9.named
  have hlocks := B9.notSynchronized
  have hi2 : ∀ w ∈ wsX20, w ∈ wsX2_leaveFinishedOrder := by decide +kernel
  have hS : va_S (fun q : Nat => base ≤ q) s.heap s.heap [] := va_S.rf
  have hl := lv_entry ([.ref a]) (n := 2) (Nat.le_of_ble_eq_true rfl)
  rw [lg_entry_eq]
  generalize (lg_sl ([.ref a]) ++ List.replicate (2 - (lg_sl ([.ref a])).length) Slot.unset).toArray = ls at hl ⊢
  have hl : lv_has ls 2 [(0, .ref a)] := hl
  refine lv_aload_n hx hb dX2_leaveFinishedOrder_0 rfl (lv_at hl 0 rfl) ?_
  refine z_get (C := RX2) (T := TX2) (N := 14) (ci := 2) (index := 98) (v := .null) hx hb hts hi2 hown hA hH (zk0 k_a (by decide)) (zE_k3 k_a) rfl 10 (by decide) (hts (.fieldLink RX2 98 "ParoleCards$Person" "order" "LParoleCards$Order;") (by decide +kernel)) (fun _ h9 => h9) (congrArg (fun z => some (va_rf z)) p210_a) dX2_leaveFinishedOrder_1 ?_
  refine lv_astore_nN (lv' := [(1, .null), (0, .ref a)]) hx hb dX2_leaveFinishedOrder_4 rfl hl (by decide) rfl (fun ls hl => ?_)
  refine lv_aload_nN hx hb dX2_leaveFinishedOrder_5 rfl (lv_at hl 0 rfl) ?_
  refine lv_ifnullN (tgt := 20) hx hb dX2_leaveFinishedOrder_6 (by decide) ?_
  exact z_vret hx hb hr hlocks hH hS (by exact rfl) (by decide) (by decide) dX2_leaveFinishedOrder_20
set_option maxHeartbeats 4000000 in
set_option maxRecDepth 100000 in
theorem c2_leaveFin_s (l : Launch) (D : va_G) (cy : Nat → ClassId) (base : Nat) (w : zW) (a : Nat) (o : Nat) (t : Nat) (k_a : zK w a = 3) (p210_a : zP w 210 a = some o) (k_o : zK w o = 2) (p102_o : zP w 102 o = some t) (k_t : zK w t = 5) : Met l yX2_leaveFinishedOrder wsX2_leaveFinishedOrder ({ frames := 1, cells := 0, slots := 0, locals := 21 }) (zPc D cy base (zH D cy base) [.ref a] w) (zQv base (zH D cy base) (fun (u0 : zW) => ((zI w 104 o) ≤ 0 ∧ u0 = (zsP (zsI (zsI w 105 o ((zI w 105 o) - 1)) 401 t ((zI w 401 t) - 1)) 210 a none)) ∨ (¬ (zI w 104 o) ≤ 0 ∧ u0 = w))) 0 0 (fun q => base ≤ q) := by
  refine Met.ofW (cc := cX2_leaveFinishedOrder) (maxL := 2) (ret := none) (by decide) rfl ?_
  intro p e s m args below meth c s₁ B9 hml hv
  obtain ⟨rfl, hA, hH⟩ := hv
  have hx := B9.exec
  have hb := B9.bytes
  have hr := B9.returns
  have hts := atoms_spec (ws := wsX2_leaveFinishedOrder) B9.pre
  have hown : s.vm.findClass RX2 = some m.cls := findClass_of_methodNamed B9.named
  have hlocks := B9.notSynchronized
  have hi2 : ∀ w ∈ wsX20, w ∈ wsX2_leaveFinishedOrder := by decide +kernel
  have hS : va_S (fun q : Nat => base ≤ q) s.heap s.heap [] := va_S.rf
  have hl := lv_entry ([.ref a]) (n := 2) (Nat.le_of_ble_eq_true rfl)
  rw [lg_entry_eq]
  generalize (lg_sl ([.ref a]) ++ List.replicate (2 - (lg_sl ([.ref a])).length) Slot.unset).toArray = ls at hl ⊢
  have hl : lv_has ls 2 [(0, .ref a)] := hl
  refine lv_aload_n hx hb dX2_leaveFinishedOrder_0 rfl (lv_at hl 0 rfl) ?_
  refine z_get (C := RX2) (T := TX2) (N := 14) (ci := 2) (index := 98) (v := .ref o) hx hb hts hi2 hown hA hH (zk0 k_a (by decide)) (zE_k3 k_a) rfl 10 (by decide) (hts (.fieldLink RX2 98 "ParoleCards$Person" "order" "LParoleCards$Order;") (by decide +kernel)) (fun _ h9 => h9) (congrArg (fun z => some (va_rf z)) p210_a) dX2_leaveFinishedOrder_1 ?_
  refine lv_astore_n (lv' := [(1, .ref o), (0, .ref a)]) hx hb dX2_leaveFinishedOrder_4 rfl hl (by decide) rfl (fun ls hl => ?_)
  refine lv_aload_n hx hb dX2_leaveFinishedOrder_5 rfl (lv_at hl 0 rfl) ?_
  refine lv_ifnull hx hb dX2_leaveFinishedOrder_6 ?_
  refine lv_aload_n hx hb dX2_leaveFinishedOrder_9 rfl (lv_at hl 0 rfl) ?_
  refine z_calli (va_runV (As := []) (rest := []) ⟨hx, hb, hml, hown, hts⟩ (c1_isFinished l D cy base w o k_o) (cwV 0 hts gX2_leaveFinishedOrder_X1_isFinished rfl rfl rfl (by decide +kernel) ⟨Nat.le_of_ble_eq_true rfl, Nat.le_of_ble_eq_true rfl⟩) (z_preV hA hS hH (z_recv hA hH (zk0 k_o (by decide)) (zE_k2 k_o) (q := (RX1, TX1, 6)) rfl)) rfl rfl hl.1 rfl (lv_room (Nat.le_of_ble_eq_true rfl)) dX2_leaveFinishedOrder_10 ⟨Nat.le_of_ble_eq_true rfl, Nat.le_of_ble_eq_true rfl⟩) hS (fun r_k_1 u_k_1 H locs hw_k_1 hH hz_k_1 hS => ?_)
  rcases hw_k_1 with ⟨h_k_1_0, rfl, hu_k_1⟩ | ⟨h_k_1_0, rfl, hu_k_1⟩
  · rw [hu_k_1] at hH
    refine lv_if_eq (tgt := 20) hx hb dX2_leaveFinishedOrder_13 (by decide) (fun c_2 => absurd c_2 (by decide)) (fun _ => ?_)
    refine lv_aload_n hx hb dX2_leaveFinishedOrder_16 rfl (lv_at hl 1 rfl) ?_
    refine z_callv (va_runV (As := []) (rest := []) ⟨hx, hb, hml, hown, hts⟩ (c2_leaveOrder_s l D cy base w a o t k_a p210_a k_o p102_o k_t) (cwV 0 hts gX2_leaveFinishedOrder_X2_leaveOrder rfl rfl rfl (by decide +kernel) ⟨Nat.le_of_ble_eq_true rfl, Nat.le_of_ble_eq_true rfl⟩) (z_preV hA hS hH (z_recv hA hH (zk0 k_a (by decide)) (zE_k3 k_a) (q := (RX2, TX2, 14)) rfl)) rfl rfl hl.1 rfl (lv_room (Nat.le_of_ble_eq_true rfl)) dX2_leaveFinishedOrder_17 ⟨Nat.le_of_ble_eq_true rfl, Nat.le_of_ble_eq_true rfl⟩) hS (fun u_k_3 H locs hw_k_3 hH hz_k_3 hS => ?_)
    have hu_k_3 := hw_k_3
    rw [hu_k_3] at hH
    exact z_vret hx hb hr hlocks hH hS (by first | contradiction | (refine Or.inl (⟨?_, rfl⟩) <;> first | assumption | omega | (simp_all; done)) | (refine Or.inr (⟨?_, rfl⟩) <;> first | assumption | omega | (simp_all; done))) (by decide) (by decide) dX2_leaveFinishedOrder_20
  · rw [hu_k_1] at hH
    refine lv_if_eq (tgt := 20) hx hb dX2_leaveFinishedOrder_13 (by decide) (fun _ => ?_) (fun c_4 => absurd c_4 (by decide))
    exact z_vret hx hb hr hlocks hH hS (by first | contradiction | (refine Or.inl (⟨?_, rfl⟩) <;> first | assumption | omega | (simp_all; done)) | (refine Or.inr (⟨?_, rfl⟩) <;> first | assumption | omega | (simp_all; done))) (by decide) (by decide) dX2_leaveFinishedOrder_20
set_option maxHeartbeats 4000000 in
set_option maxRecDepth 100000 in
theorem c3_partWage (l : Launch) (D : va_G) (cy : Nat → ClassId) (base : Nat) (w : zW) (q : Nat) (r : Nat) (wg : Int32) (k_q : zK w q = 4) (p300_q : zP w 300 q = some r) (k_r : zK w r = 15) (n_r : zN w r = 4) : Met l yX3_partWage wsX3_partWage ({ frames := 0, cells := 0, slots := 0, locals := 0 }) (zPc D cy base (zH D cy base) [.ref q, .int wg] w) (zQv base (zH D cy base) (fun (u0 : zW) => u0 = (zsR (zsR (zsR (zsR w r 0 ((zR w r 0) + ((wg * 30) / 100))) r 1 ((zR w r 1) + ((wg * 20) / 100))) r 2 ((zR w r 2) + ((wg * 30) / 100))) r 3 ((zR w r 3) + (((wg - ((wg * 30) / 100)) - ((wg * 20) / 100)) - ((wg * 30) / 100)))))) 0 0 (fun q => base ≤ q) := by
  refine Met.ofW (cc := cX3_partWage) (maxL := 5) (ret := none) (by decide) rfl ?_
  intro p e s m args below meth c s₁ B9 hml hv
  obtain ⟨rfl, hA, hH⟩ := hv
  have hx := B9.exec
  have hb := B9.bytes
  have hr := B9.returns
  have hts := atoms_spec (ws := wsX3_partWage) B9.pre
  have hown : s.vm.findClass RX3 = some m.cls := findClass_of_methodNamed B9.named
  have hlocks := B9.notSynchronized
  have hi3 : ∀ w ∈ wsX30, w ∈ wsX3_partWage := by decide +kernel
  have hS : va_S (fun q : Nat => base ≤ q) s.heap s.heap [] := va_S.rf
  have hl := lv_entry ([.ref q, .int wg]) (n := 5) (Nat.le_of_ble_eq_true rfl)
  rw [lg_entry_eq]
  generalize (lg_sl ([.ref q, .int wg]) ++ List.replicate (5 - (lg_sl ([.ref q, .int wg])).length) Slot.unset).toArray = ls at hl ⊢
  have hl : lv_has ls 5 [(0, .ref q), (1, .int wg)] := hl
  refine lv_iload_n hx hb dX3_partWage_0 rfl (lv_at hl 1 rfl) ?_
  refine lv_bipush (v := 30) hx hb dX3_partWage_1 (by decide) ?_
  refine lv_imul hx hb dX3_partWage_3 ?_
  refine lv_bipush (v := 100) hx hb dX3_partWage_4 (by decide) ?_
  refine lv_idiv hx hb dX3_partWage_6 (by decide) ?_
  refine lv_istore_n (lv' := [(2, .int ((wg * 30) / 100)), (0, .ref q), (1, .int wg)]) hx hb dX3_partWage_7 rfl hl (by decide) rfl (fun ls hl => ?_)
  refine lv_iload_n hx hb dX3_partWage_8 rfl (lv_at hl 2 rfl) ?_
  refine lv_bipush (v := 20) hx hb dX3_partWage_9 (by decide) ?_
  refine lv_imul hx hb dX3_partWage_11 ?_
  refine lv_bipush (v := 100) hx hb dX3_partWage_12 (by decide) ?_
  refine lv_idiv hx hb dX3_partWage_14 (by decide) ?_
  refine lv_istore_n (lv' := [(3, .int ((wg * 20) / 100)), (2, .int ((wg * 30) / 100)), (0, .ref q), (1, .int wg)]) hx hb dX3_partWage_15 rfl hl (by decide) rfl (fun ls hl => ?_)
  refine lv_iload_n hx hb dX3_partWage_16 rfl (lv_at hl 3 rfl) ?_
  refine lv_bipush (v := 30) hx hb dX3_partWage_17 (by decide) ?_
  refine lv_imul hx hb dX3_partWage_19 ?_
  refine lv_bipush (v := 100) hx hb dX3_partWage_20 (by decide) ?_
  refine lv_idiv hx hb dX3_partWage_22 (by decide) ?_
  refine lv_istore (lv' := [(4, .int ((wg * 30) / 100)), (3, .int ((wg * 20) / 100)), (2, .int ((wg * 30) / 100)), (0, .ref q), (1, .int wg)]) hx hb dX3_partWage_23 hl (by decide) rfl (fun ls hl => ?_)
  refine lv_aload_n hx hb dX3_partWage_25 rfl (lv_at hl 3 rfl) ?_
  refine z_get (C := RX3) (T := TX3) (N := 4) (ci := 3) (index := 9) (v := .ref r) hx hb hts hi3 hown hA hH (zk0 k_q (by decide)) (zE_k4 k_q) rfl 0 (by decide) (hts (.fieldLink RX3 9 "ParoleCards$Purse" "accounts" "[I") (by decide +kernel)) (fun _ h9 => h9) (congrArg (fun z => some (va_rf z)) p300_q) dX3_partWage_26 ?_
  refine lv_iconst (v := 0) hx hb dX3_partWage_29 (by decide) ?_
  refine lv_dup2_11 hx hb dX3_partWage_30 rfl rfl ?_
  refine z_iald (v := (zR w r 0)) hx hb hA hH (zk0 k_r (by decide)) (zEn (zE_k15 k_r) n_r) 0 rfl (by omega) (by decide) rfl dX3_partWage_31 ?_
  refine lv_iload_n hx hb dX3_partWage_32 rfl (lv_at hl 2 rfl) ?_
  refine lv_iadd hx hb dX3_partWage_33 ?_
  refine z_iast hx hb hA hH hS (zk0 k_r (by decide)) (zEn (zE_k15 k_r) n_r) 0 rfl (by omega) (by decide) (w' := zsR w r 0 ((zR w r 0) + ((wg * 30) / 100))) (zEn (zst_15 (w := w) k_r _ _) n_r) (zsR_oth w r 0 _) (fun _ => rfl) dX3_partWage_34 (fun H locs hH hS => ?_)
  refine lv_aload_n hx hb dX3_partWage_35 rfl (lv_at hl 3 rfl) ?_
  refine z_get (C := RX3) (T := TX3) (N := 4) (ci := 3) (index := 9) (v := .ref r) hx hb hts hi3 hown hA hH (zk0 k_q (by decide)) (zE_k4 k_q) rfl 0 (by decide) (hts (.fieldLink RX3 9 "ParoleCards$Purse" "accounts" "[I") (by decide +kernel)) (fun _ h9 => h9) (congrArg (fun z => some (va_rf z)) p300_q) dX3_partWage_36 ?_
  refine lv_iconst (v := 1) hx hb dX3_partWage_39 (by decide) ?_
  refine lv_dup2_11 hx hb dX3_partWage_40 rfl rfl ?_
  refine z_iald (v := (zR w r 1)) hx hb hA hH (zk0 k_r (by decide)) (zEn (zE_k15 k_r) n_r) 1 rfl (by omega) (by decide) (by simp [zR, zsR, zsI, zsP, z2, va_up]) dX3_partWage_41 ?_
  refine lv_iload_n hx hb dX3_partWage_42 rfl (lv_at hl 1 rfl) ?_
  refine lv_iadd hx hb dX3_partWage_43 ?_
  refine z_iast hx hb hA hH hS (zk0 k_r (by decide)) (zEn (zE_k15 k_r) n_r) 1 rfl (by omega) (by decide) (w' := zsR (zsR w r 0 ((zR w r 0) + ((wg * 30) / 100))) r 1 ((zR w r 1) + ((wg * 20) / 100))) (zEn (zst_15 (w := (zsR w r 0 ((zR w r 0) + ((wg * 30) / 100)))) k_r _ _) n_r) (zsR_oth (zsR w r 0 ((zR w r 0) + ((wg * 30) / 100))) r 1 _) (fun _ => rfl) dX3_partWage_44 (fun H locs hH hS => ?_)
  refine lv_aload_n hx hb dX3_partWage_45 rfl (lv_at hl 3 rfl) ?_
  refine z_get (C := RX3) (T := TX3) (N := 4) (ci := 3) (index := 9) (v := .ref r) hx hb hts hi3 hown hA hH (zk0 k_q (by decide)) (zE_k4 k_q) rfl 0 (by decide) (hts (.fieldLink RX3 9 "ParoleCards$Purse" "accounts" "[I") (by decide +kernel)) (fun _ h9 => h9) (congrArg (fun z => some (va_rf z)) p300_q) dX3_partWage_46 ?_
  refine lv_iconst (v := 2) hx hb dX3_partWage_49 (by decide) ?_
  refine lv_dup2_11 hx hb dX3_partWage_50 rfl rfl ?_
  refine z_iald (v := (zR w r 2)) hx hb hA hH (zk0 k_r (by decide)) (zEn (zE_k15 k_r) n_r) 2 rfl (by omega) (by decide) (by simp [zR, zsR, zsI, zsP, z2, va_up]) dX3_partWage_51 ?_
  refine lv_iload hx hb dX3_partWage_52 (lv_at hl 0 rfl) ?_
  refine lv_iadd hx hb dX3_partWage_54 ?_
  refine z_iast hx hb hA hH hS (zk0 k_r (by decide)) (zEn (zE_k15 k_r) n_r) 2 rfl (by omega) (by decide) (w' := zsR (zsR (zsR w r 0 ((zR w r 0) + ((wg * 30) / 100))) r 1 ((zR w r 1) + ((wg * 20) / 100))) r 2 ((zR w r 2) + ((wg * 30) / 100))) (zEn (zst_15 (w := (zsR (zsR w r 0 ((zR w r 0) + ((wg * 30) / 100))) r 1 ((zR w r 1) + ((wg * 20) / 100)))) k_r _ _) n_r) (zsR_oth (zsR (zsR w r 0 ((zR w r 0) + ((wg * 30) / 100))) r 1 ((zR w r 1) + ((wg * 20) / 100))) r 2 _) (fun _ => rfl) dX3_partWage_55 (fun H locs hH hS => ?_)
  refine lv_aload_n hx hb dX3_partWage_56 rfl (lv_at hl 3 rfl) ?_
  refine z_get (C := RX3) (T := TX3) (N := 4) (ci := 3) (index := 9) (v := .ref r) hx hb hts hi3 hown hA hH (zk0 k_q (by decide)) (zE_k4 k_q) rfl 0 (by decide) (hts (.fieldLink RX3 9 "ParoleCards$Purse" "accounts" "[I") (by decide +kernel)) (fun _ h9 => h9) (congrArg (fun z => some (va_rf z)) p300_q) dX3_partWage_57 ?_
  refine lv_iconst (v := 3) hx hb dX3_partWage_60 (by decide) ?_
  refine lv_dup2_11 hx hb dX3_partWage_61 rfl rfl ?_
  refine z_iald (v := (zR w r 3)) hx hb hA hH (zk0 k_r (by decide)) (zEn (zE_k15 k_r) n_r) 3 rfl (by omega) (by decide) (by simp [zR, zsR, zsI, zsP, z2, va_up]) dX3_partWage_62 ?_
  refine lv_iload_n hx hb dX3_partWage_63 rfl (lv_at hl 4 rfl) ?_
  refine lv_iload_n hx hb dX3_partWage_64 rfl (lv_at hl 2 rfl) ?_
  refine lv_isub hx hb dX3_partWage_65 ?_
  refine lv_iload_n hx hb dX3_partWage_66 rfl (lv_at hl 1 rfl) ?_
  refine lv_isub hx hb dX3_partWage_67 ?_
  refine lv_iload hx hb dX3_partWage_68 (lv_at hl 0 rfl) ?_
  refine lv_isub hx hb dX3_partWage_70 ?_
  refine lv_iadd hx hb dX3_partWage_71 ?_
  refine z_iast hx hb hA hH hS (zk0 k_r (by decide)) (zEn (zE_k15 k_r) n_r) 3 rfl (by omega) (by decide) (w' := zsR (zsR (zsR (zsR w r 0 ((zR w r 0) + ((wg * 30) / 100))) r 1 ((zR w r 1) + ((wg * 20) / 100))) r 2 ((zR w r 2) + ((wg * 30) / 100))) r 3 ((zR w r 3) + (((wg - ((wg * 30) / 100)) - ((wg * 20) / 100)) - ((wg * 30) / 100)))) (zEn (zst_15 (w := (zsR (zsR (zsR w r 0 ((zR w r 0) + ((wg * 30) / 100))) r 1 ((zR w r 1) + ((wg * 20) / 100))) r 2 ((zR w r 2) + ((wg * 30) / 100)))) k_r _ _) n_r) (zsR_oth (zsR (zsR (zsR w r 0 ((zR w r 0) + ((wg * 30) / 100))) r 1 ((zR w r 1) + ((wg * 20) / 100))) r 2 ((zR w r 2) + ((wg * 30) / 100))) r 3 _) (fun _ => rfl) dX3_partWage_72 (fun H locs hH hS => ?_)
  exact z_vret hx hb hr hlocks hH hS (by exact rfl) (by decide) (by decide) dX3_partWage_73
set_option maxHeartbeats 4000000 in
set_option maxRecDepth 100000 in
theorem c3_bought (l : Launch) (D : va_G) (cy : Nat → ClassId) (base : Nat) (w : zW) (q : Nat) (sp : Int32) (k_q : zK w q = 4) : Met l yX3_boughtInSpan wsX3_boughtInSpan ({ frames := 0, cells := 0, slots := 0, locals := 0 }) (zPc D cy base (zH D cy base) [.ref q, .int sp] w) (zQi base (zH D cy base) (fun (r0 : Int32) (u0 : zW) => r0 = (if sp = (zI w 301 q) then (zI w 302 q) else 0) ∧ u0 = w)) 0 0 (fun q => base ≤ q) := by
  refine Met.ofW (cc := cX3_boughtInSpan) (maxL := 2) (ret := (some .int)) (by decide) rfl ?_
  intro p e s m args below meth c s₁ B9 hml hv
  obtain ⟨rfl, hA, hH⟩ := hv
  have hx := B9.exec
  have hb := B9.bytes
  have hr := B9.returns
  have hts := atoms_spec (ws := wsX3_boughtInSpan) B9.pre
  have hown : s.vm.findClass RX3 = some m.cls := findClass_of_methodNamed B9.named
  have hlocks := B9.notSynchronized
  have hi3 : ∀ w ∈ wsX30, w ∈ wsX3_boughtInSpan := by decide +kernel
  have hS : va_S (fun q : Nat => base ≤ q) s.heap s.heap [] := va_S.rf
  have hl := lv_entry ([.ref q, .int sp]) (n := 2) (Nat.le_of_ble_eq_true rfl)
  rw [lg_entry_eq]
  generalize (lg_sl ([.ref q, .int sp]) ++ List.replicate (2 - (lg_sl ([.ref q, .int sp])).length) Slot.unset).toArray = ls at hl ⊢
  have hl : lv_has ls 2 [(0, .ref q), (1, .int sp)] := hl
  refine lv_iload_n hx hb dX3_boughtInSpan_0 rfl (lv_at hl 1 rfl) ?_
  refine lv_aload_n hx hb dX3_boughtInSpan_1 rfl (lv_at hl 0 rfl) ?_
  refine z_get (C := RX3) (T := TX3) (N := 4) (ci := 3) (index := 15) (v := .int (zI w 301 q)) hx hb hts hi3 hown hA hH (zk0 k_q (by decide)) (zE_k4 k_q) rfl 1 (by decide) (hts (.fieldLink RX3 15 "ParoleCards$Purse" "lastSpan" "I") (by decide +kernel)) (fun _ h9 => h9) rfl dX3_boughtInSpan_2 ?_
  refine lv_icmp_ne (tgt := 15) hx hb dX3_boughtInSpan_5 (by decide) (fun c_1 => ?_) (fun c_1 => ?_)
  · refine lv_iconst (v := 0) hx hb dX3_boughtInSpan_15 (by decide) ?_
    exact z_iret hx hb hr hlocks hH hS ⟨by simp [c_1], rfl⟩ (by decide) (by decide) dX3_boughtInSpan_16
  · refine lv_aload_n hx hb dX3_boughtInSpan_8 rfl (lv_at hl 0 rfl) ?_
    refine z_get (C := RX3) (T := TX3) (N := 4) (ci := 3) (index := 19) (v := .int (zI w 302 q)) hx hb hts hi3 hown hA hH (zk0 k_q (by decide)) (zE_k4 k_q) rfl 2 (by decide) (hts (.fieldLink RX3 19 "ParoleCards$Purse" "boughtInLastSpan" "I") (by decide +kernel)) (fun _ h9 => h9) rfl dX3_boughtInSpan_9 ?_
    refine lv_goto (tgt := 16) hx hb dX3_boughtInSpan_12 (by decide) ?_
    exact z_iret hx hb hr hlocks hH hS ⟨by simp [c_1], rfl⟩ (by decide) (by decide) dX3_boughtInSpan_16
set_option maxHeartbeats 4000000 in
set_option maxRecDepth 100000 in
theorem c3_spend (l : Launch) (D : va_G) (cy : Nat → ClassId) (base : Nat) (w : zW) (q : Nat) (r : Nat) (am : Int32) (sp : Int32) (k_q : zK w q = 4) (p300_q : zP w 300 q = some r) (k_r : zK w r = 15) (n_r : zN w r = 4) : Met l yX3_spend wsX3_spend ({ frames := 1, cells := 0, slots := 0, locals := 21 }) (zPc D cy base (zH D cy base) [.ref q, .int am, .int sp] w) (zQv base (zH D cy base) (fun (u0 : zW) => u0 = (zsR (zsI (zsI w 302 q ((if sp = (zI w 301 q) then (zI w 302 q) else 0) + am)) 301 q sp) r 3 ((zR w r 3) - am)))) 0 0 (fun q => base ≤ q) := by
  refine Met.ofW (cc := cX3_spend) (maxL := 3) (ret := none) (by decide) rfl ?_
  intro p e s m args below meth c s₁ B9 hml hv
  obtain ⟨rfl, hA, hH⟩ := hv
  have hx := B9.exec
  have hb := B9.bytes
  have hr := B9.returns
  have hts := atoms_spec (ws := wsX3_spend) B9.pre
  have hown : s.vm.findClass RX3 = some m.cls := findClass_of_methodNamed B9.named
  have hlocks := B9.notSynchronized
  have hi3 : ∀ w ∈ wsX30, w ∈ wsX3_spend := by decide +kernel
  have hS : va_S (fun q : Nat => base ≤ q) s.heap s.heap [] := va_S.rf
  have hl := lv_entry ([.ref q, .int am, .int sp]) (n := 3) (Nat.le_of_ble_eq_true rfl)
  rw [lg_entry_eq]
  generalize (lg_sl ([.ref q, .int am, .int sp]) ++ List.replicate (3 - (lg_sl ([.ref q, .int am, .int sp])).length) Slot.unset).toArray = ls at hl ⊢
  have hl : lv_has ls 3 [(0, .ref q), (1, .int am), (2, .int sp)] := hl
  refine lv_aload_n hx hb dX3_spend_0 rfl (lv_at hl 0 rfl) ?_
  refine lv_aload_n hx hb dX3_spend_1 rfl (lv_at hl 0 rfl) ?_
  refine lv_iload_n hx hb dX3_spend_2 rfl (lv_at hl 2 rfl) ?_
  refine z_calli (va_runV (As := [.int sp]) (rest := [.ref q]) ⟨hx, hb, hml, hown, hts⟩ (c3_bought l D cy base w q sp k_q) (cwV 1 hts gX3_spend_X3_boughtInSpan rfl rfl rfl (by decide +kernel) ⟨Nat.le_of_ble_eq_true rfl, Nat.le_of_ble_eq_true rfl⟩) (z_preV hA hS hH (z_recv hA hH (zk0 k_q (by decide)) (zE_k4 k_q) (q := (RX3, TX3, 4)) rfl)) rfl rfl hl.1 rfl (lv_room (Nat.le_of_ble_eq_true rfl)) dX3_spend_3 ⟨Nat.le_of_ble_eq_true rfl, Nat.le_of_ble_eq_true rfl⟩) hS (fun r_k_1 u_k_1 H locs hw_k_1 hH hz_k_1 hS => ?_)
  rcases hw_k_1 with ⟨rfl, hu_k_1⟩
  rw [hu_k_1] at hH
  refine lv_iload_n hx hb dX3_spend_6 rfl (lv_at hl 1 rfl) ?_
  refine lv_iadd hx hb dX3_spend_7 ?_
  refine z_put (C := RX3) (T := TX3) (N := 4) (ci := 3) (index := 19) (v := .int ((if sp = (zI w 301 q) then (zI w 302 q) else 0) + am)) (ty := .int) hx hb hts hi3 tyX3 tyX3_ok nmX3 hown hA hH hS (zk0 k_q (by decide)) (zE_k4 k_q) rfl 2 (by decide) (hts (.fieldLink RX3 19 "ParoleCards$Purse" "boughtInLastSpan" "I") (by decide +kernel)) (fun _ h9 => h9) rfl (by decide +kernel) rfl rfl (Nat.le_of_ble_eq_true rfl) (w' := zsI w 302 q ((if sp = (zI w 301 q) then (zI w 302 q) else 0) + am)) (zs_302 (w := w) k_q _) (zsI_oth w 302 q _) (fun _ => rfl) dX3_spend_8 (fun H locs hH hS => ?_)
  refine lv_aload_n hx hb dX3_spend_11 rfl (lv_at hl 0 rfl) ?_
  refine lv_iload_n hx hb dX3_spend_12 rfl (lv_at hl 2 rfl) ?_
  refine z_put (C := RX3) (T := TX3) (N := 4) (ci := 3) (index := 15) (v := .int sp) (ty := .int) hx hb hts hi3 tyX3 tyX3_ok nmX3 hown hA hH hS (zk0 k_q (by decide)) (zE_k4 k_q) rfl 1 (by decide) (hts (.fieldLink RX3 15 "ParoleCards$Purse" "lastSpan" "I") (by decide +kernel)) (fun _ h9 => h9) rfl (by decide +kernel) rfl rfl (Nat.le_of_ble_eq_true rfl) (w' := zsI (zsI w 302 q ((if sp = (zI w 301 q) then (zI w 302 q) else 0) + am)) 301 q sp) (zs_301 (w := (zsI w 302 q ((if sp = (zI w 301 q) then (zI w 302 q) else 0) + am))) k_q _) (zsI_oth (zsI w 302 q ((if sp = (zI w 301 q) then (zI w 302 q) else 0) + am)) 301 q _) (fun _ => rfl) dX3_spend_13 (fun H locs hH hS => ?_)
  refine lv_aload_n hx hb dX3_spend_16 rfl (lv_at hl 0 rfl) ?_
  refine z_get (C := RX3) (T := TX3) (N := 4) (ci := 3) (index := 9) (v := .ref r) hx hb hts hi3 hown hA hH (zk0 k_q (by decide)) (zE_k4 k_q) rfl 0 (by decide) (hts (.fieldLink RX3 9 "ParoleCards$Purse" "accounts" "[I") (by decide +kernel)) (fun _ h9 => h9) (congrArg (fun z => some (va_rf z)) p300_q) dX3_spend_17 ?_
  refine lv_iconst (v := 3) hx hb dX3_spend_20 (by decide) ?_
  refine lv_dup2_11 hx hb dX3_spend_21 rfl rfl ?_
  refine z_iald (v := (zR w r 3)) hx hb hA hH (zk0 k_r (by decide)) (zEn (zE_k15 k_r) n_r) 3 rfl (by omega) (by decide) rfl dX3_spend_22 ?_
  refine lv_iload_n hx hb dX3_spend_23 rfl (lv_at hl 1 rfl) ?_
  refine lv_isub hx hb dX3_spend_24 ?_
  refine z_iast hx hb hA hH hS (zk0 k_r (by decide)) (zEn (zE_k15 k_r) n_r) 3 rfl (by omega) (by decide) (w' := zsR (zsI (zsI w 302 q ((if sp = (zI w 301 q) then (zI w 302 q) else 0) + am)) 301 q sp) r 3 ((zR w r 3) - am)) (zEn (zst_15 (w := (zsI (zsI w 302 q ((if sp = (zI w 301 q) then (zI w 302 q) else 0) + am)) 301 q sp)) k_r _ _) n_r) (zsR_oth (zsI (zsI w 302 q ((if sp = (zI w 301 q) then (zI w 302 q) else 0) + am)) 301 q sp) r 3 _) (fun _ => rfl) dX3_spend_25 (fun H locs hH hS => ?_)
  exact z_vret hx hb hr hlocks hH hS (by exact rfl) (by decide) (by decide) dX3_spend_26
set_option maxHeartbeats 4000000 in
set_option maxRecDepth 100000 in
theorem c3_payOut (l : Launch) (D : va_G) (cy : Nat → ClassId) (base : Nat) (w : zW) (q : Nat) (r : Nat) (k_q : zK w q = 4) (p300_q : zP w 300 q = some r) (k_r : zK w r = 15) (n_r : zN w r = 4) : Met l yX3_payOut wsX3_payOut ({ frames := 0, cells := 0, slots := 0, locals := 0 }) (zPc D cy base (zH D cy base) [.ref q] w) (zQv base (zH D cy base) (fun (u0 : zW) => u0 = (zsR (zsR (zsI w 303 q ((zR w r 2) + (zR w r 3))) r 2 0) r 3 0))) 0 0 (fun q => base ≤ q) := by
  refine Met.ofW (cc := cX3_payOut) (maxL := 1) (ret := none) (by decide) rfl ?_
  intro p e s m args below meth c s₁ B9 hml hv
  obtain ⟨rfl, hA, hH⟩ := hv
  have hx := B9.exec
  have hb := B9.bytes
  have hr := B9.returns
  have hts := atoms_spec (ws := wsX3_payOut) B9.pre
  have hown : s.vm.findClass RX3 = some m.cls := findClass_of_methodNamed B9.named
  have hlocks := B9.notSynchronized
  have hi3 : ∀ w ∈ wsX30, w ∈ wsX3_payOut := by decide +kernel
  have hS : va_S (fun q : Nat => base ≤ q) s.heap s.heap [] := va_S.rf
  have hl := lv_entry ([.ref q]) (n := 1) (Nat.le_of_ble_eq_true rfl)
  rw [lg_entry_eq]
  generalize (lg_sl ([.ref q]) ++ List.replicate (1 - (lg_sl ([.ref q])).length) Slot.unset).toArray = ls at hl ⊢
  have hl : lv_has ls 1 [(0, .ref q)] := hl
  refine lv_aload_n hx hb dX3_payOut_0 rfl (lv_at hl 0 rfl) ?_
  refine lv_aload_n hx hb dX3_payOut_1 rfl (lv_at hl 0 rfl) ?_
  refine z_get (C := RX3) (T := TX3) (N := 4) (ci := 3) (index := 9) (v := .ref r) hx hb hts hi3 hown hA hH (zk0 k_q (by decide)) (zE_k4 k_q) rfl 0 (by decide) (hts (.fieldLink RX3 9 "ParoleCards$Purse" "accounts" "[I") (by decide +kernel)) (fun _ h9 => h9) (congrArg (fun z => some (va_rf z)) p300_q) dX3_payOut_2 ?_
  refine lv_iconst (v := 2) hx hb dX3_payOut_5 (by decide) ?_
  refine z_iald (v := (zR w r 2)) hx hb hA hH (zk0 k_r (by decide)) (zEn (zE_k15 k_r) n_r) 2 rfl (by omega) (by decide) rfl dX3_payOut_6 ?_
  refine lv_aload_n hx hb dX3_payOut_7 rfl (lv_at hl 0 rfl) ?_
  refine z_get (C := RX3) (T := TX3) (N := 4) (ci := 3) (index := 9) (v := .ref r) hx hb hts hi3 hown hA hH (zk0 k_q (by decide)) (zE_k4 k_q) rfl 0 (by decide) (hts (.fieldLink RX3 9 "ParoleCards$Purse" "accounts" "[I") (by decide +kernel)) (fun _ h9 => h9) (congrArg (fun z => some (va_rf z)) p300_q) dX3_payOut_8 ?_
  refine lv_iconst (v := 3) hx hb dX3_payOut_11 (by decide) ?_
  refine z_iald (v := (zR w r 3)) hx hb hA hH (zk0 k_r (by decide)) (zEn (zE_k15 k_r) n_r) 3 rfl (by omega) (by decide) rfl dX3_payOut_12 ?_
  refine lv_iadd hx hb dX3_payOut_13 ?_
  refine z_put (C := RX3) (T := TX3) (N := 4) (ci := 3) (index := 26) (v := .int ((zR w r 2) + (zR w r 3))) (ty := .int) hx hb hts hi3 tyX3 tyX3_ok nmX3 hown hA hH hS (zk0 k_q (by decide)) (zE_k4 k_q) rfl 3 (by decide) (hts (.fieldLink RX3 26 "ParoleCards$Purse" "paidOutSum" "I") (by decide +kernel)) (fun _ h9 => h9) rfl (by decide +kernel) rfl rfl (Nat.le_of_ble_eq_true rfl) (w' := zsI w 303 q ((zR w r 2) + (zR w r 3))) (zs_303 (w := w) k_q _) (zsI_oth w 303 q _) (fun _ => rfl) dX3_payOut_14 (fun H locs hH hS => ?_)
  refine lv_aload_n hx hb dX3_payOut_17 rfl (lv_at hl 0 rfl) ?_
  refine z_get (C := RX3) (T := TX3) (N := 4) (ci := 3) (index := 9) (v := .ref r) hx hb hts hi3 hown hA hH (zk0 k_q (by decide)) (zE_k4 k_q) rfl 0 (by decide) (hts (.fieldLink RX3 9 "ParoleCards$Purse" "accounts" "[I") (by decide +kernel)) (fun _ h9 => h9) (congrArg (fun z => some (va_rf z)) p300_q) dX3_payOut_18 ?_
  refine lv_iconst (v := 2) hx hb dX3_payOut_21 (by decide) ?_
  refine lv_iconst (v := 0) hx hb dX3_payOut_22 (by decide) ?_
  refine z_iast hx hb hA hH hS (zk0 k_r (by decide)) (zEn (zE_k15 k_r) n_r) 2 rfl (by omega) (by decide) (w' := zsR (zsI w 303 q ((zR w r 2) + (zR w r 3))) r 2 0) (zEn (zst_15 (w := (zsI w 303 q ((zR w r 2) + (zR w r 3)))) k_r _ _) n_r) (zsR_oth (zsI w 303 q ((zR w r 2) + (zR w r 3))) r 2 _) (fun _ => rfl) dX3_payOut_23 (fun H locs hH hS => ?_)
  refine lv_aload_n hx hb dX3_payOut_24 rfl (lv_at hl 0 rfl) ?_
  refine z_get (C := RX3) (T := TX3) (N := 4) (ci := 3) (index := 9) (v := .ref r) hx hb hts hi3 hown hA hH (zk0 k_q (by decide)) (zE_k4 k_q) rfl 0 (by decide) (hts (.fieldLink RX3 9 "ParoleCards$Purse" "accounts" "[I") (by decide +kernel)) (fun _ h9 => h9) (congrArg (fun z => some (va_rf z)) p300_q) dX3_payOut_25 ?_
  refine lv_iconst (v := 3) hx hb dX3_payOut_28 (by decide) ?_
  refine lv_iconst (v := 0) hx hb dX3_payOut_29 (by decide) ?_
  refine z_iast hx hb hA hH hS (zk0 k_r (by decide)) (zEn (zE_k15 k_r) n_r) 3 rfl (by omega) (by decide) (w' := zsR (zsR (zsI w 303 q ((zR w r 2) + (zR w r 3))) r 2 0) r 3 0) (zEn (zst_15 (w := (zsR (zsI w 303 q ((zR w r 2) + (zR w r 3))) r 2 0)) k_r _ _) n_r) (zsR_oth (zsR (zsI w 303 q ((zR w r 2) + (zR w r 3))) r 2 0) r 3 _) (fun _ => rfl) dX3_payOut_30 (fun H locs hH hS => ?_)
  exact z_vret hx hb hr hlocks hH hS (by exact rfl) (by decide) (by decide) dX3_payOut_31
set_option maxHeartbeats 4000000 in
set_option maxRecDepth 100000 in
theorem c2_workOneDay_n (l : Launch) (D : va_G) (cy : Nat → ClassId) (base : Nat) (w : zW) (a : Nat) (k_a : zK w a = 3) (p210_a : zP w 210 a = none) : Met l yX2_workOneDay wsX2_workOneDay ({ frames := 0, cells := 0, slots := 0, locals := 0 }) (zPc D cy base (zH D cy base) [.ref a] w) (zQv base (zH D cy base) (fun (u0 : zW) => u0 = w)) 0 0 (fun q => base ≤ q) := by
  refine Met.ofW (cc := cX2_workOneDay) (maxL := 2) (ret := none) (by decide) rfl ?_
  intro p e s m args below meth c s₁ B9 hml hv
  obtain ⟨rfl, hA, hH⟩ := hv
  have hx := B9.exec
  have hb := B9.bytes
  have hr := B9.returns
  have hts := atoms_spec (ws := wsX2_workOneDay) B9.pre
  have hown : s.vm.findClass RX2 = some m.cls := findClass_of_methodNamed B9.named
  have hlocks := B9.notSynchronized
  have hi2 : ∀ w ∈ wsX20, w ∈ wsX2_workOneDay := by decide +kernel
  have hS : va_S (fun q : Nat => base ≤ q) s.heap s.heap [] := va_S.rf
  have hl := lv_entry ([.ref a]) (n := 2) (Nat.le_of_ble_eq_true rfl)
  rw [lg_entry_eq]
  generalize (lg_sl ([.ref a]) ++ List.replicate (2 - (lg_sl ([.ref a])).length) Slot.unset).toArray = ls at hl ⊢
  have hl : lv_has ls 2 [(0, .ref a)] := hl
  refine lv_aload_n hx hb dX2_workOneDay_0 rfl (lv_at hl 0 rfl) ?_
  refine z_get (C := RX2) (T := TX2) (N := 14) (ci := 2) (index := 98) (v := .null) hx hb hts hi2 hown hA hH (zk0 k_a (by decide)) (zE_k3 k_a) rfl 10 (by decide) (hts (.fieldLink RX2 98 "ParoleCards$Person" "order" "LParoleCards$Order;") (by decide +kernel)) (fun _ h9 => h9) (congrArg (fun z => some (va_rf z)) p210_a) dX2_workOneDay_1 ?_
  refine lv_astore_nN (lv' := [(1, .null), (0, .ref a)]) hx hb dX2_workOneDay_4 rfl hl (by decide) rfl (fun ls hl => ?_)
  refine lv_aload_nN hx hb dX2_workOneDay_5 rfl (lv_at hl 0 rfl) ?_
  refine lv_ifnullN (tgt := 47) hx hb dX2_workOneDay_6 (by decide) ?_
  exact z_vret hx hb hr hlocks hH hS (by exact rfl) (by decide) (by decide) dX2_workOneDay_47
set_option maxHeartbeats 4000000 in
set_option maxRecDepth 100000 in
theorem c2_workOneDay_s (l : Launch) (D : va_G) (cy : Nat → ClassId) (base : Nat) (w : zW) (a : Nat) (o : Nat) (q : Nat) (r : Nat) (k_a : zK w a = 3) (p210_a : zP w 210 a = some o) (k_o : zK w o = 2) (p211_a : zP w 211 a = some q) (k_q : zK w q = 4) (p300_q : zP w 300 q = some r) (k_r : zK w r = 15) (n_r : zN w r = 4) : Met l yX2_workOneDay wsX2_workOneDay ({ frames := 1, cells := 0, slots := 0, locals := 24 }) (zPc D cy base (zH D cy base) [.ref a] w) (zQv base (zH D cy base) (fun (u0 : zW) => ((zI w 104 o) ≤ 0 ∧ u0 = w) ∨ (¬ (zI w 104 o) ≤ 0 ∧ u0 = (zsR (zsR (zsR (zsR (zsI (zsI w 104 o ((zI w 104 o) - 1)) 204 a ((zI w 204 a) + 1)) r 0 ((zR w r 0) + (((zI w 103 o) * 30) / 100))) r 1 ((zR w r 1) + (((zI w 103 o) * 20) / 100))) r 2 ((zR w r 2) + (((zI w 103 o) * 30) / 100))) r 3 ((zR w r 3) + ((((zI w 103 o) - (((zI w 103 o) * 30) / 100)) - (((zI w 103 o) * 20) / 100)) - (((zI w 103 o) * 30) / 100))))))) 0 0 (fun q => base ≤ q) := by
  refine Met.ofW (cc := cX2_workOneDay) (maxL := 2) (ret := none) (by decide) rfl ?_
  intro p e s m args below meth c s₁ B9 hml hv
  obtain ⟨rfl, hA, hH⟩ := hv
  have hx := B9.exec
  have hb := B9.bytes
  have hr := B9.returns
  have hts := atoms_spec (ws := wsX2_workOneDay) B9.pre
  have hown : s.vm.findClass RX2 = some m.cls := findClass_of_methodNamed B9.named
  have hlocks := B9.notSynchronized
  have hi1 : ∀ w ∈ wsX10, w ∈ wsX2_workOneDay := by decide +kernel
  have hi2 : ∀ w ∈ wsX20, w ∈ wsX2_workOneDay := by decide +kernel
  have hS : va_S (fun q : Nat => base ≤ q) s.heap s.heap [] := va_S.rf
  have hl := lv_entry ([.ref a]) (n := 2) (Nat.le_of_ble_eq_true rfl)
  rw [lg_entry_eq]
  generalize (lg_sl ([.ref a]) ++ List.replicate (2 - (lg_sl ([.ref a])).length) Slot.unset).toArray = ls at hl ⊢
  have hl : lv_has ls 2 [(0, .ref a)] := hl
  refine lv_aload_n hx hb dX2_workOneDay_0 rfl (lv_at hl 0 rfl) ?_
  refine z_get (C := RX2) (T := TX2) (N := 14) (ci := 2) (index := 98) (v := .ref o) hx hb hts hi2 hown hA hH (zk0 k_a (by decide)) (zE_k3 k_a) rfl 10 (by decide) (hts (.fieldLink RX2 98 "ParoleCards$Person" "order" "LParoleCards$Order;") (by decide +kernel)) (fun _ h9 => h9) (congrArg (fun z => some (va_rf z)) p210_a) dX2_workOneDay_1 ?_
  refine lv_astore_n (lv' := [(1, .ref o), (0, .ref a)]) hx hb dX2_workOneDay_4 rfl hl (by decide) rfl (fun ls hl => ?_)
  refine lv_aload_n hx hb dX2_workOneDay_5 rfl (lv_at hl 0 rfl) ?_
  refine lv_ifnull hx hb dX2_workOneDay_6 ?_
  refine lv_aload_n hx hb dX2_workOneDay_9 rfl (lv_at hl 0 rfl) ?_
  refine z_calli (va_runV (As := []) (rest := []) ⟨hx, hb, hml, hown, hts⟩ (c1_isFinished l D cy base w o k_o) (cwV 0 hts gX2_workOneDay_X1_isFinished rfl rfl rfl (by decide +kernel) ⟨Nat.le_of_ble_eq_true rfl, Nat.le_of_ble_eq_true rfl⟩) (z_preV hA hS hH (z_recv hA hH (zk0 k_o (by decide)) (zE_k2 k_o) (q := (RX1, TX1, 6)) rfl)) rfl rfl hl.1 rfl (lv_room (Nat.le_of_ble_eq_true rfl)) dX2_workOneDay_10 ⟨Nat.le_of_ble_eq_true rfl, Nat.le_of_ble_eq_true rfl⟩) hS (fun r_k_1 u_k_1 H locs hw_k_1 hH hz_k_1 hS => ?_)
  rcases hw_k_1 with ⟨h_k_1_0, rfl, hu_k_1⟩ | ⟨h_k_1_0, rfl, hu_k_1⟩
  · rw [hu_k_1] at hH
    refine lv_if_ne (tgt := 47) hx hb dX2_workOneDay_13 (by decide) (fun _ => ?_) (fun c_2 => absurd c_2 (by decide))
    exact z_vret hx hb hr hlocks hH hS (by first | contradiction | (refine Or.inl (⟨?_, rfl⟩) <;> first | assumption | omega | (simp_all; done)) | (refine Or.inr (⟨?_, rfl⟩) <;> first | assumption | omega | (simp_all; done))) (by decide) (by decide) dX2_workOneDay_47
  · rw [hu_k_1] at hH
    refine lv_if_ne (tgt := 47) hx hb dX2_workOneDay_13 (by decide) (fun c_3 => absurd c_3 (by decide)) (fun _ => ?_)
    refine lv_aload_n hx hb dX2_workOneDay_16 rfl (lv_at hl 0 rfl) ?_
    refine lv_dup hx hb dX2_workOneDay_17 rfl ?_
    refine z_get (C := RX1) (T := TX1) (N := 6) (ci := 1) (index := 119) (v := .int (zI w 104 o)) hx hb hts hi1 hown hA hH (zk0 k_o (by decide)) (zE_k2 k_o) rfl 4 (by decide) (hts (.fieldLink RX2 119 "ParoleCards$Order" "workLeft" "I") (by decide +kernel)) (fun _ h9 => h9) rfl dX2_workOneDay_18 ?_
    refine lv_iconst (v := 1) hx hb dX2_workOneDay_21 (by decide) ?_
    refine lv_isub hx hb dX2_workOneDay_22 ?_
    refine z_put (C := RX1) (T := TX1) (N := 6) (ci := 1) (index := 119) (v := .int ((zI w 104 o) - 1)) (ty := .int) hx hb hts hi1 tyX1 tyX1_ok nmX1 hown hA hH hS (zk0 k_o (by decide)) (zE_k2 k_o) rfl 4 (by decide) (hts (.fieldLink RX2 119 "ParoleCards$Order" "workLeft" "I") (by decide +kernel)) (fun _ h9 => h9) rfl (by decide +kernel) rfl rfl (Nat.le_of_ble_eq_true rfl) (w' := zsI w 104 o ((zI w 104 o) - 1)) (zs_104 (w := w) k_o _) (zsI_oth w 104 o _) (fun _ => rfl) dX2_workOneDay_23 (fun H locs hH hS => ?_)
    refine lv_aload_n hx hb dX2_workOneDay_26 rfl (lv_at hl 1 rfl) ?_
    refine lv_dup hx hb dX2_workOneDay_27 rfl ?_
    refine z_get (C := RX2) (T := TX2) (N := 14) (ci := 2) (index := 37) (v := .int (zI w 204 a)) hx hb hts hi2 hown hA hH (zk0 k_a (by decide)) (zE_k3 k_a) rfl 4 (by decide) (hts (.fieldLink RX2 37 "ParoleCards$Person" "workedDays" "I") (by decide +kernel)) (fun _ h9 => h9) rfl dX2_workOneDay_28 ?_
    refine lv_iconst (v := 1) hx hb dX2_workOneDay_31 (by decide) ?_
    refine lv_iadd hx hb dX2_workOneDay_32 ?_
    refine z_put (C := RX2) (T := TX2) (N := 14) (ci := 2) (index := 37) (v := .int ((zI w 204 a) + 1)) (ty := .int) hx hb hts hi2 tyX2 tyX2_ok nmX2 hown hA hH hS (zk0 k_a (by decide)) (zE_k3 k_a) rfl 4 (by decide) (hts (.fieldLink RX2 37 "ParoleCards$Person" "workedDays" "I") (by decide +kernel)) (fun _ h9 => h9) rfl (by decide +kernel) rfl rfl (Nat.le_of_ble_eq_true rfl) (w' := zsI (zsI w 104 o ((zI w 104 o) - 1)) 204 a ((zI w 204 a) + 1)) (zs_204 (w := (zsI w 104 o ((zI w 104 o) - 1))) k_a _) (zsI_oth (zsI w 104 o ((zI w 104 o) - 1)) 204 a _) (fun _ => rfl) dX2_workOneDay_33 (fun H locs hH hS => ?_)
    refine lv_aload_n hx hb dX2_workOneDay_36 rfl (lv_at hl 1 rfl) ?_
    refine z_get (C := RX2) (T := TX2) (N := 14) (ci := 2) (index := 24) (v := .ref q) hx hb hts hi2 hown hA hH (zk0 k_a (by decide)) (zE_k3 k_a) rfl 11 (by decide) (hts (.fieldLink RX2 24 "ParoleCards$Person" "purse" "LParoleCards$Purse;") (by decide +kernel)) (fun _ h9 => h9) (congrArg (fun z => some (va_rf z)) p211_a) dX2_workOneDay_37 ?_
    refine lv_aload_n hx hb dX2_workOneDay_40 rfl (lv_at hl 0 rfl) ?_
    refine z_get (C := RX1) (T := TX1) (N := 6) (ci := 1) (index := 122) (v := .int (zI w 103 o)) hx hb hts hi1 hown hA hH (zk0 k_o (by decide)) (zE_k2 k_o) rfl 3 (by decide) (hts (.fieldLink RX2 122 "ParoleCards$Order" "wage" "I") (by decide +kernel)) (fun _ h9 => h9) rfl dX2_workOneDay_41 ?_
    refine z_callv (va_runV (As := [.int (zI w 103 o)]) (rest := []) ⟨hx, hb, hml, hown, hts⟩ (c3_partWage l D cy base (zsI (zsI w 104 o ((zI w 104 o) - 1)) 204 a ((zI w 204 a) + 1)) q r (zI w 103 o) k_q p300_q k_r n_r) (cwV 1 hts gX2_workOneDay_X3_partWage rfl rfl rfl (by decide +kernel) ⟨Nat.le_of_ble_eq_true rfl, Nat.le_of_ble_eq_true rfl⟩) (z_preV hA hS hH (z_recv hA hH (zk0 k_q (by decide)) (zE_k4 k_q) (q := (RX3, TX3, 4)) rfl)) rfl rfl hl.1 rfl (lv_room (Nat.le_of_ble_eq_true rfl)) dX2_workOneDay_44 ⟨Nat.le_of_ble_eq_true rfl, Nat.le_of_ble_eq_true rfl⟩) hS (fun u_k_4 H locs hw_k_4 hH hz_k_4 hS => ?_)
    have hu_k_4 := hw_k_4
    rw [hu_k_4] at hH
    exact z_vret hx hb hr hlocks hH hS (by first | contradiction | (refine Or.inl (⟨?_, rfl⟩) <;> first | assumption | omega | (simp_all; done)) | (refine Or.inr (⟨?_, rfl⟩) <;> first | assumption | omega | (simp_all; done))) (by decide) (by decide) dX2_workOneDay_47
set_option maxHeartbeats 4000000 in
set_option maxRecDepth 100000 in
theorem c2_joinOrder (l : Launch) (D : va_G) (cy : Nat → ClassId) (base : Nat) (w : zW) (a : Nat) (o : Nat) (t : Nat) (k_a : zK w a = 3) (k_o : zK w o = 2) (p102_o : zP w 102 o = some t) (k_t : zK w t = 5) : Met l yX2_joinOrder wsX2_joinOrder ({ frames := 0, cells := 0, slots := 0, locals := 0 }) (zPc D cy base (zH D cy base) [.ref a, .ref o] w) (zQv base (zH D cy base) (fun (u0 : zW) => u0 = (zsI (zsI (zsP w 210 a (some o)) 105 o ((zI w 105 o) + 1)) 401 t ((zI w 401 t) + 1)))) 0 0 (fun q => base ≤ q) := by
  refine Met.ofW (cc := cX2_joinOrder) (maxL := 2) (ret := none) (by decide) rfl ?_
  intro p e s m args below meth c s₁ B9 hml hv
  obtain ⟨rfl, hA, hH⟩ := hv
  have hx := B9.exec
  have hb := B9.bytes
  have hr := B9.returns
  have hts := atoms_spec (ws := wsX2_joinOrder) B9.pre
  have hown : s.vm.findClass RX2 = some m.cls := findClass_of_methodNamed B9.named
  have hlocks := B9.notSynchronized
  have hi1 : ∀ w ∈ wsX10, w ∈ wsX2_joinOrder := by decide +kernel
  have hi2 : ∀ w ∈ wsX20, w ∈ wsX2_joinOrder := by decide +kernel
  have hi4 : ∀ w ∈ wsX40, w ∈ wsX2_joinOrder := by decide +kernel
  have hS : va_S (fun q : Nat => base ≤ q) s.heap s.heap [] := va_S.rf
  have hl := lv_entry ([.ref a, .ref o]) (n := 2) (Nat.le_of_ble_eq_true rfl)
  rw [lg_entry_eq]
  generalize (lg_sl ([.ref a, .ref o]) ++ List.replicate (2 - (lg_sl ([.ref a, .ref o])).length) Slot.unset).toArray = ls at hl ⊢
  have hl : lv_has ls 2 [(0, .ref a), (1, .ref o)] := hl
  refine lv_aload_n hx hb dX2_joinOrder_0 rfl (lv_at hl 0 rfl) ?_
  refine lv_aload_n hx hb dX2_joinOrder_1 rfl (lv_at hl 1 rfl) ?_
  refine z_put (C := RX2) (T := TX2) (N := 14) (ci := 2) (index := 98) (v := .ref o) (ty := .object "ParoleCards$Order") hx hb hts hi2 tyX2 tyX2_ok nmX2 hown hA hH hS (zk0 k_a (by decide)) (zE_k3 k_a) rfl 10 (by decide) (hts (.fieldLink RX2 98 "ParoleCards$Person" "order" "LParoleCards$Order;") (by decide +kernel)) (fun _ h9 => h9) rfl (by decide +kernel) rfl rfl (Nat.le_of_ble_eq_true rfl) (w' := zsP w 210 a (some o)) (zs_210 (w := w) k_a _) (zsP_oth w 210 a _) (fun _ => rfl) dX2_joinOrder_2 (fun H locs hH hS => ?_)
  refine lv_aload_n hx hb dX2_joinOrder_5 rfl (lv_at hl 1 rfl) ?_
  refine lv_dup hx hb dX2_joinOrder_6 rfl ?_
  refine z_get (C := RX1) (T := TX1) (N := 6) (ci := 1) (index := 102) (v := .int (zI w 105 o)) hx hb hts hi1 hown hA hH (zk0 k_o (by decide)) (zE_k2 k_o) rfl 5 (by decide) (hts (.fieldLink RX2 102 "ParoleCards$Order" "peopleOnIt" "I") (by decide +kernel)) (fun _ h9 => h9) rfl dX2_joinOrder_7 ?_
  refine lv_iconst (v := 1) hx hb dX2_joinOrder_10 (by decide) ?_
  refine lv_iadd hx hb dX2_joinOrder_11 ?_
  refine z_put (C := RX1) (T := TX1) (N := 6) (ci := 1) (index := 102) (v := .int ((zI w 105 o) + 1)) (ty := .int) hx hb hts hi1 tyX1 tyX1_ok nmX1 hown hA hH hS (zk0 k_o (by decide)) (zE_k2 k_o) rfl 5 (by decide) (hts (.fieldLink RX2 102 "ParoleCards$Order" "peopleOnIt" "I") (by decide +kernel)) (fun _ h9 => h9) rfl (by decide +kernel) rfl rfl (Nat.le_of_ble_eq_true rfl) (w' := zsI (zsP w 210 a (some o)) 105 o ((zI w 105 o) + 1)) (zs_105 (w := (zsP w 210 a (some o))) k_o _) (zsI_oth (zsP w 210 a (some o)) 105 o _) (fun _ => rfl) dX2_joinOrder_12 (fun H locs hH hS => ?_)
  refine lv_aload_n hx hb dX2_joinOrder_15 rfl (lv_at hl 1 rfl) ?_
  refine z_get (C := RX1) (T := TX1) (N := 6) (ci := 1) (index := 107) (v := .ref t) hx hb hts hi1 hown hA hH (zk0 k_o (by decide)) (zE_k2 k_o) rfl 2 (by decide) (hts (.fieldLink RX2 107 "ParoleCards$Order" "tools" "LParoleCards$ToolKind;") (by decide +kernel)) (fun _ h9 => h9) (congrArg (fun z => some (va_rf z)) p102_o) dX2_joinOrder_16 ?_
  refine lv_dup hx hb dX2_joinOrder_19 rfl ?_
  refine z_get (C := RX4) (T := TX4) (N := 2) (ci := 4) (index := 111) (v := .int (zI w 401 t)) hx hb hts hi4 hown hA hH (zk0 k_t (by decide)) (zE_k5 k_t) rfl 1 (by decide) (hts (.fieldLink RX2 111 "ParoleCards$ToolKind" "countedOut" "I") (by decide +kernel)) (fun _ h9 => h9) rfl dX2_joinOrder_20 ?_
  refine lv_iconst (v := 1) hx hb dX2_joinOrder_23 (by decide) ?_
  refine lv_iadd hx hb dX2_joinOrder_24 ?_
  refine z_put (C := RX4) (T := TX4) (N := 2) (ci := 4) (index := 111) (v := .int ((zI w 401 t) + 1)) (ty := .int) hx hb hts hi4 tyX4 tyX4_ok nmX4 hown hA hH hS (zk0 k_t (by decide)) (zE_k5 k_t) rfl 1 (by decide) (hts (.fieldLink RX2 111 "ParoleCards$ToolKind" "countedOut" "I") (by decide +kernel)) (fun _ h9 => h9) rfl (by decide +kernel) rfl rfl (Nat.le_of_ble_eq_true rfl) (w' := zsI (zsI (zsP w 210 a (some o)) 105 o ((zI w 105 o) + 1)) 401 t ((zI w 401 t) + 1)) (zs_401 (w := (zsI (zsP w 210 a (some o)) 105 o ((zI w 105 o) + 1))) k_t _) (zsI_oth (zsI (zsP w 210 a (some o)) 105 o ((zI w 105 o) + 1)) 401 t _) (fun _ => rfl) dX2_joinOrder_25 (fun H locs hH hS => ?_)
  exact z_vret hx hb hr hlocks hH hS (by exact rfl) (by decide) (by decide) dX2_joinOrder_28
set_option maxHeartbeats 4000000 in
set_option maxRecDepth 100000 in
theorem c2_appeal (l : Launch) (D : va_G) (cy : Nat → ClassId) (base : Nat) (w : zW) (a : Nat) (e9 : Nat) (k_a : zK w a = 3) (k_e9 : zK w e9 = 1) : Met l yX2_appealOffence wsX2_appealOffence ({ frames := 2, cells := 0, slots := 0, locals := 50 }) (zPc D cy base (zH D cy base) [.ref a, .ref e9] w) (zQv base (zH D cy base) (fun (u0 : zW) => ((zI w 2 e9) = 0 ∧ u0 = (zsI (zsI w 3 e9 1) 209 a ((zI w 209 a) - (zI w 1 e9)))) ∨ (¬ (zI w 2 e9) = 0 ∧ u0 = (zsI (zsI (zsI w 3 e9 1) 209 a ((zI w 209 a) - (zI w 1 e9))) 203 a (if 2 < ((zI w 203 a) + 1) then 2 else ((zI w 203 a) + 1)))))) 0 0 (fun q => base ≤ q) := by
  refine Met.ofW (cc := cX2_appealOffence) (maxL := 2) (ret := none) (by decide) rfl ?_
  intro p e s m args below meth c s₁ B9 hml hv
  obtain ⟨rfl, hA, hH⟩ := hv
  have hx := B9.exec
  have hb := B9.bytes
  have hr := B9.returns
  have hts := atoms_spec (ws := wsX2_appealOffence) B9.pre
  have hown : s.vm.findClass RX2 = some m.cls := findClass_of_methodNamed B9.named
  have hlocks := B9.notSynchronized
  have hi0 : ∀ w ∈ wsX00, w ∈ wsX2_appealOffence := by decide +kernel
  have hi2 : ∀ w ∈ wsX20, w ∈ wsX2_appealOffence := by decide +kernel
  have hS : va_S (fun q : Nat => base ≤ q) s.heap s.heap [] := va_S.rf
  have hl := lv_entry ([.ref a, .ref e9]) (n := 2) (Nat.le_of_ble_eq_true rfl)
  rw [lg_entry_eq]
  generalize (lg_sl ([.ref a, .ref e9]) ++ List.replicate (2 - (lg_sl ([.ref a, .ref e9])).length) Slot.unset).toArray = ls at hl ⊢
  have hl : lv_has ls 2 [(0, .ref a), (1, .ref e9)] := hl
  refine lv_aload_n hx hb dX2_appealOffence_0 rfl (lv_at hl 1 rfl) ?_
  refine lv_iconst (v := 1) hx hb dX2_appealOffence_1 (by decide) ?_
  refine z_put (C := RX0) (T := TX0) (N := 4) (ci := 0) (index := 89) (v := .int 1) (ty := .boolean) hx hb hts hi0 tyX0 tyX0_ok nmX0 hown hA hH hS (zk0 k_e9 (by decide)) (zE_k1 k_e9) rfl 3 (by decide) (hts (.fieldLink RX2 89 "ParoleCards$Offence" "appealed" "Z") (by decide +kernel)) (fun _ h9 => h9) rfl (by decide +kernel) rfl rfl (Nat.le_of_ble_eq_true rfl) (w' := zsI w 3 e9 1) (zs_3 (w := w) k_e9 _) (zsI_oth w 3 e9 _) (fun _ => rfl) dX2_appealOffence_2 (fun H locs hH hS => ?_)
  refine lv_aload_n hx hb dX2_appealOffence_5 rfl (lv_at hl 0 rfl) ?_
  refine lv_dup hx hb dX2_appealOffence_6 rfl ?_
  refine z_get (C := RX2) (T := TX2) (N := 14) (ci := 2) (index := 60) (v := .int (zI w 209 a)) hx hb hts hi2 hown hA hH (zk0 k_a (by decide)) (zE_k3 k_a) rfl 9 (by decide) (hts (.fieldLink RX2 60 "ParoleCards$Person" "lostDays" "I") (by decide +kernel)) (fun _ h9 => h9) rfl dX2_appealOffence_7 ?_
  refine lv_aload_n hx hb dX2_appealOffence_10 rfl (lv_at hl 1 rfl) ?_
  refine z_get (C := RX0) (T := TX0) (N := 4) (ci := 0) (index := 92) (v := .int (zI w 1 e9)) hx hb hts hi0 hown hA hH (zk0 k_e9 (by decide)) (zE_k1 k_e9) rfl 1 (by decide) (hts (.fieldLink RX2 92 "ParoleCards$Offence" "days" "I") (by decide +kernel)) (fun _ h9 => h9) rfl dX2_appealOffence_11 ?_
  refine lv_isub hx hb dX2_appealOffence_14 ?_
  refine z_put (C := RX2) (T := TX2) (N := 14) (ci := 2) (index := 60) (v := .int ((zI w 209 a) - (zI w 1 e9))) (ty := .int) hx hb hts hi2 tyX2 tyX2_ok nmX2 hown hA hH hS (zk0 k_a (by decide)) (zE_k3 k_a) rfl 9 (by decide) (hts (.fieldLink RX2 60 "ParoleCards$Person" "lostDays" "I") (by decide +kernel)) (fun _ h9 => h9) rfl (by decide +kernel) rfl rfl (Nat.le_of_ble_eq_true rfl) (w' := zsI (zsI w 3 e9 1) 209 a ((zI w 209 a) - (zI w 1 e9))) (zs_209 (w := (zsI w 3 e9 1)) k_a _) (zsI_oth (zsI w 3 e9 1) 209 a _) (fun _ => rfl) dX2_appealOffence_15 (fun H locs hH hS => ?_)
  refine lv_aload_n hx hb dX2_appealOffence_18 rfl (lv_at hl 1 rfl) ?_
  refine z_get (C := RX0) (T := TX0) (N := 4) (ci := 0) (index := 95) (v := .int (zI w 2 e9)) hx hb hts hi0 hown hA hH (zk0 k_e9 (by decide)) (zE_k1 k_e9) rfl 2 (by decide) (hts (.fieldLink RX2 95 "ParoleCards$Offence" "loweredRegime" "Z") (by decide +kernel)) (fun _ h9 => h9) rfl dX2_appealOffence_19 ?_
  refine lv_if_eq (tgt := 29) hx hb dX2_appealOffence_22 (by decide) (fun c_1 => ?_) (fun c_1 => ?_)
  · exact z_vret hx hb hr hlocks hH hS (by first | contradiction | (refine Or.inl (⟨?_, rfl⟩) <;> first | assumption | omega | (simp_all; done)) | (refine Or.inr (⟨?_, rfl⟩) <;> first | assumption | omega | (simp_all; done))) (by decide) (by decide) dX2_appealOffence_29
  · refine lv_aload_n hx hb dX2_appealOffence_25 rfl (lv_at hl 0 rfl) ?_
    refine z_callv (va_runV (As := []) (rest := []) ⟨hx, hb, hml, hown, hts⟩ (c2_raiseRegime l D cy base (zsI (zsI w 3 e9 1) 209 a ((zI w 209 a) - (zI w 1 e9))) a k_a) (cwV 0 hts gX2_appealOffence_X2_raiseRegime rfl rfl rfl (by decide +kernel) ⟨Nat.le_of_ble_eq_true rfl, Nat.le_of_ble_eq_true rfl⟩) (z_preV hA hS hH (z_recv hA hH (zk0 k_a (by decide)) (zE_k3 k_a) (q := (RX2, TX2, 14)) rfl)) rfl rfl hl.1 rfl (lv_room (Nat.le_of_ble_eq_true rfl)) dX2_appealOffence_26 ⟨Nat.le_of_ble_eq_true rfl, Nat.le_of_ble_eq_true rfl⟩) hS (fun u_k_2 H locs hw_k_2 hH hz_k_2 hS => ?_)
    have hu_k_2 := hw_k_2
    rw [hu_k_2] at hH
    exact z_vret hx hb hr hlocks hH hS (by first | contradiction | (refine Or.inl (⟨?_, rfl⟩) <;> first | assumption | omega | (simp_all; done)) | (refine Or.inr (⟨?_, rfl⟩) <;> first | assumption | omega | (simp_all; done))) (by decide) (by decide) dX2_appealOffence_29
set_option maxHeartbeats 4000000 in
set_option maxRecDepth 100000 in
theorem c2_isDue (l : Launch) (D : va_G) (cy : Nat → ClassId) (base : Nat) (w : zW) (a : Nat) (t : Int32) (k_a : zK w a = 3) : Met l yX2_isDue wsX2_isDue ({ frames := 2, cells := 0, slots := 0, locals := 50 }) (zPc D cy base (zH D cy base) [.ref a, .int t] w) (zQi base (zH D cy base) (fun (r0 : Int32) (u0 : zW) => (¬ (zI w 212 a) = 0 ∧ r0 = 0 ∧ u0 = w) ∨ ((zI w 212 a) = 0 ∧ ((((zI w 200 a) + (zI w 201 a)) - (if ((zI w 201 a) / 4) < (((zI w 204 a) / 5) + (zI w 206 a)) then ((zI w 201 a) / 4) else (((zI w 204 a) / 5) + (zI w 206 a)))) + (zI w 209 a)) ≤ t ∧ r0 = 1 ∧ u0 = w) ∨ ((zI w 212 a) = 0 ∧ ¬ ((((zI w 200 a) + (zI w 201 a)) - (if ((zI w 201 a) / 4) < (((zI w 204 a) / 5) + (zI w 206 a)) then ((zI w 201 a) / 4) else (((zI w 204 a) / 5) + (zI w 206 a)))) + (zI w 209 a)) ≤ t ∧ r0 = 0 ∧ u0 = w))) 0 0 (fun q => base ≤ q) := by
  refine Met.ofW (cc := cX2_isDue) (maxL := 2) (ret := (some .boolean)) (by decide) rfl ?_
  intro p e s m args below meth c s₁ B9 hml hv
  obtain ⟨rfl, hA, hH⟩ := hv
  have hx := B9.exec
  have hb := B9.bytes
  have hr := B9.returns
  have hts := atoms_spec (ws := wsX2_isDue) B9.pre
  have hown : s.vm.findClass RX2 = some m.cls := findClass_of_methodNamed B9.named
  have hlocks := B9.notSynchronized
  have hi2 : ∀ w ∈ wsX20, w ∈ wsX2_isDue := by decide +kernel
  have hS : va_S (fun q : Nat => base ≤ q) s.heap s.heap [] := va_S.rf
  have hl := lv_entry ([.ref a, .int t]) (n := 2) (Nat.le_of_ble_eq_true rfl)
  rw [lg_entry_eq]
  generalize (lg_sl ([.ref a, .int t]) ++ List.replicate (2 - (lg_sl ([.ref a, .int t])).length) Slot.unset).toArray = ls at hl ⊢
  have hl : lv_has ls 2 [(0, .ref a), (1, .int t)] := hl
  refine lv_aload_n hx hb dX2_isDue_0 rfl (lv_at hl 0 rfl) ?_
  refine z_get (C := RX2) (T := TX2) (N := 14) (ci := 2) (index := 43) (v := .int (zI w 212 a)) hx hb hts hi2 hown hA hH (zk0 k_a (by decide)) (zE_k3 k_a) rfl 12 (by decide) (hts (.fieldLink RX2 43 "ParoleCards$Person" "released" "Z") (by decide +kernel)) (fun _ h9 => h9) rfl dX2_isDue_1 ?_
  refine lv_if_ne (tgt := 19) hx hb dX2_isDue_4 (by decide) (fun c_1 => ?_) (fun c_1 => ?_)
  · refine lv_iconst (v := 0) hx hb dX2_isDue_19 (by decide) ?_
    exact z_zret hx hb hr hlocks hH hS rfl (by first | contradiction | (refine Or.inl (⟨?_, rfl, rfl⟩) <;> first | assumption | (exact Int32.not_lt.mp (by assumption)) | (exact Int32.not_le.mpr (by assumption))) | (refine Or.inr (Or.inl (⟨?_, ?_, rfl, rfl⟩)) <;> first | assumption | (exact Int32.not_lt.mp (by assumption)) | (exact Int32.not_le.mpr (by assumption))) | (refine Or.inr (Or.inr (⟨?_, ?_, rfl, rfl⟩)) <;> first | assumption | (exact Int32.not_lt.mp (by assumption)) | (exact Int32.not_le.mpr (by assumption)))) (by decide) (by decide) dX2_isDue_20
  · refine lv_aload_n hx hb dX2_isDue_7 rfl (lv_at hl 0 rfl) ?_
    refine z_calli (va_runV (As := []) (rest := []) ⟨hx, hb, hml, hown, hts⟩ (c2_releaseDay l D cy base w a k_a) (cwV 0 hts gX2_isDue_X2_releaseDay rfl rfl rfl (by decide +kernel) ⟨Nat.le_of_ble_eq_true rfl, Nat.le_of_ble_eq_true rfl⟩) (z_preV hA hS hH (z_recv hA hH (zk0 k_a (by decide)) (zE_k3 k_a) (q := (RX2, TX2, 14)) rfl)) rfl rfl hl.1 rfl (lv_room (Nat.le_of_ble_eq_true rfl)) dX2_isDue_8 ⟨Nat.le_of_ble_eq_true rfl, Nat.le_of_ble_eq_true rfl⟩) hS (fun r_k_2 u_k_2 H locs hw_k_2 hH hz_k_2 hS => ?_)
    rcases hw_k_2 with ⟨h_k_2_0, rfl, hu_k_2⟩ | ⟨h_k_2_0, rfl, hu_k_2⟩
    · rw [hu_k_2] at hH
      refine lv_iload_n hx hb dX2_isDue_11 rfl (lv_at hl 1 rfl) ?_
      refine lv_icmp_gt (tgt := 19) hx hb dX2_isDue_12 (by decide) (fun c_3 => ?_) (fun c_3 => ?_)
      · refine lv_iconst (v := 0) hx hb dX2_isDue_19 (by decide) ?_
        exact z_zret hx hb hr hlocks hH hS rfl (by first | contradiction | (refine Or.inl (⟨?_, rfl, rfl⟩) <;> first | assumption | (exact Int32.not_lt.mp (by assumption)) | (exact Int32.not_le.mpr (by assumption))) | (refine Or.inr (Or.inl (⟨?_, ?_, rfl, rfl⟩)) <;> first | assumption | (exact Int32.not_lt.mp (by assumption)) | (exact Int32.not_le.mpr (by assumption))) | (refine Or.inr (Or.inr (⟨?_, ?_, rfl, rfl⟩)) <;> first | assumption | (exact Int32.not_lt.mp (by assumption)) | (exact Int32.not_le.mpr (by assumption)))) (by decide) (by decide) dX2_isDue_20
      · refine lv_iconst (v := 1) hx hb dX2_isDue_15 (by decide) ?_
        refine lv_goto (tgt := 20) hx hb dX2_isDue_16 (by decide) ?_
        exact z_zret hx hb hr hlocks hH hS rfl (by first | contradiction | (refine Or.inl (⟨?_, rfl, rfl⟩) <;> first | assumption | (exact Int32.not_lt.mp (by assumption)) | (exact Int32.not_le.mpr (by assumption))) | (refine Or.inr (Or.inl (⟨?_, ?_, rfl, rfl⟩)) <;> first | assumption | (exact Int32.not_lt.mp (by assumption)) | (exact Int32.not_le.mpr (by assumption))) | (refine Or.inr (Or.inr (⟨?_, ?_, rfl, rfl⟩)) <;> first | assumption | (exact Int32.not_lt.mp (by assumption)) | (exact Int32.not_le.mpr (by assumption)))) (by decide) (by decide) dX2_isDue_20
    · rw [hu_k_2] at hH
      refine lv_iload_n hx hb dX2_isDue_11 rfl (lv_at hl 1 rfl) ?_
      refine lv_icmp_gt (tgt := 19) hx hb dX2_isDue_12 (by decide) (fun c_4 => ?_) (fun c_4 => ?_)
      · refine lv_iconst (v := 0) hx hb dX2_isDue_19 (by decide) ?_
        exact z_zret hx hb hr hlocks hH hS rfl (by first | contradiction | (refine Or.inl (⟨?_, rfl, rfl⟩) <;> first | assumption | (exact Int32.not_lt.mp (by assumption)) | (exact Int32.not_le.mpr (by assumption))) | (refine Or.inr (Or.inl (⟨?_, ?_, rfl, rfl⟩)) <;> first | assumption | (exact Int32.not_lt.mp (by assumption)) | (exact Int32.not_le.mpr (by assumption))) | (refine Or.inr (Or.inr (⟨?_, ?_, rfl, rfl⟩)) <;> first | assumption | (exact Int32.not_lt.mp (by assumption)) | (exact Int32.not_le.mpr (by assumption)))) (by decide) (by decide) dX2_isDue_20
      · refine lv_iconst (v := 1) hx hb dX2_isDue_15 (by decide) ?_
        refine lv_goto (tgt := 20) hx hb dX2_isDue_16 (by decide) ?_
        exact z_zret hx hb hr hlocks hH hS rfl (by first | contradiction | (refine Or.inl (⟨?_, rfl, rfl⟩) <;> first | assumption | (exact Int32.not_lt.mp (by assumption)) | (exact Int32.not_le.mpr (by assumption))) | (refine Or.inr (Or.inl (⟨?_, ?_, rfl, rfl⟩)) <;> first | assumption | (exact Int32.not_lt.mp (by assumption)) | (exact Int32.not_le.mpr (by assumption))) | (refine Or.inr (Or.inr (⟨?_, ?_, rfl, rfl⟩)) <;> first | assumption | (exact Int32.not_lt.mp (by assumption)) | (exact Int32.not_le.mpr (by assumption)))) (by decide) (by decide) dX2_isDue_20
set_option maxHeartbeats 4000000 in
set_option maxRecDepth 100000 in
theorem c2_letGo_n (l : Launch) (D : va_G) (cy : Nat → ClassId) (base : Nat) (w : zW) (a : Nat) (d : Int32) (q : Nat) (r : Nat) (k_a : zK w a = 3) (p210_a : zP w 210 a = none) (p211_a : zP w 211 a = some q) (k_q : zK w q = 4) (p300_q : zP w 300 q = some r) (k_r : zK w r = 15) (n_r : zN w r = 4) : Met l yX2_letGo wsX2_letGo ({ frames := 1, cells := 0, slots := 0, locals := 21 }) (zPc D cy base (zH D cy base) [.ref a, .int d] w) (zQv base (zH D cy base) (fun (u0 : zW) => u0 = (zsI (zsI (zsR (zsR (zsI w 303 q ((zR w r 2) + (zR w r 3))) r 2 0) r 3 0) 213 a d) 212 a 1))) 0 0 (fun q => base ≤ q) := by
  refine Met.ofW (cc := cX2_letGo) (maxL := 2) (ret := none) (by decide) rfl ?_
  intro p e s m args below meth c s₁ B9 hml hv
  obtain ⟨rfl, hA, hH⟩ := hv
  have hx := B9.exec
  have hb := B9.bytes
  have hr := B9.returns
  have hts := atoms_spec (ws := wsX2_letGo) B9.pre
  have hown : s.vm.findClass RX2 = some m.cls := findClass_of_methodNamed B9.named
  have hlocks := B9.notSynchronized
  have hi2 : ∀ w ∈ wsX20, w ∈ wsX2_letGo := by decide +kernel
  have hS : va_S (fun q : Nat => base ≤ q) s.heap s.heap [] := va_S.rf
  have hl := lv_entry ([.ref a, .int d]) (n := 2) (Nat.le_of_ble_eq_true rfl)
  rw [lg_entry_eq]
  generalize (lg_sl ([.ref a, .int d]) ++ List.replicate (2 - (lg_sl ([.ref a, .int d])).length) Slot.unset).toArray = ls at hl ⊢
  have hl : lv_has ls 2 [(0, .ref a), (1, .int d)] := hl
  refine lv_aload_n hx hb dX2_letGo_0 rfl (lv_at hl 0 rfl) ?_
  refine z_callv (va_runV (As := []) (rest := []) ⟨hx, hb, hml, hown, hts⟩ (c2_leaveOrder_n l D cy base w a k_a p210_a) (cwV 0 hts gX2_letGo_X2_leaveOrder rfl rfl rfl (by decide +kernel) ⟨Nat.le_of_ble_eq_true rfl, Nat.le_of_ble_eq_true rfl⟩) (z_preV hA hS hH (z_recv hA hH (zk0 k_a (by decide)) (zE_k3 k_a) (q := (RX2, TX2, 14)) rfl)) rfl rfl hl.1 rfl (lv_room (Nat.le_of_ble_eq_true rfl)) dX2_letGo_1 ⟨Nat.le_of_ble_eq_true rfl, Nat.le_of_ble_eq_true rfl⟩) hS (fun u_k_1 H locs hw_k_1 hH hz_k_1 hS => ?_)
  have hu_k_1 := hw_k_1
  rw [hu_k_1] at hH
  refine lv_aload_n hx hb dX2_letGo_4 rfl (lv_at hl 0 rfl) ?_
  refine z_get (C := RX2) (T := TX2) (N := 14) (ci := 2) (index := 24) (v := .ref q) hx hb hts hi2 hown hA hH (zk0 k_a (by decide)) (zE_k3 k_a) rfl 11 (by decide) (hts (.fieldLink RX2 24 "ParoleCards$Person" "purse" "LParoleCards$Purse;") (by decide +kernel)) (fun _ h9 => h9) (congrArg (fun z => some (va_rf z)) p211_a) dX2_letGo_5 ?_
  refine z_callv (va_runV (As := []) (rest := []) ⟨hx, hb, hml, hown, hts⟩ (c3_payOut l D cy base w q r k_q p300_q k_r n_r) (cwV 0 hts gX2_letGo_X3_payOut rfl rfl rfl (by decide +kernel) ⟨Nat.le_of_ble_eq_true rfl, Nat.le_of_ble_eq_true rfl⟩) (z_preV hA hS hH (z_recv hA hH (zk0 k_q (by decide)) (zE_k4 k_q) (q := (RX3, TX3, 4)) rfl)) rfl rfl hl.1 rfl (lv_room (Nat.le_of_ble_eq_true rfl)) dX2_letGo_8 ⟨Nat.le_of_ble_eq_true rfl, Nat.le_of_ble_eq_true rfl⟩) hS (fun u_k_2 H locs hw_k_2 hH hz_k_2 hS => ?_)
  have hu_k_2 := hw_k_2
  rw [hu_k_2] at hH
  refine lv_aload_n hx hb dX2_letGo_11 rfl (lv_at hl 0 rfl) ?_
  refine lv_iload_n hx hb dX2_letGo_12 rfl (lv_at hl 1 rfl) ?_
  refine z_put (C := RX2) (T := TX2) (N := 14) (ci := 2) (index := 47) (v := .int d) (ty := .int) hx hb hts hi2 tyX2 tyX2_ok nmX2 hown hA hH hS (zk0 k_a (by decide)) (zE_k3 k_a) rfl 13 (by decide) (hts (.fieldLink RX2 47 "ParoleCards$Person" "releasedOn" "I") (by decide +kernel)) (fun _ h9 => h9) rfl (by decide +kernel) rfl rfl (Nat.le_of_ble_eq_true rfl) (w' := zsI (zsR (zsR (zsI w 303 q ((zR w r 2) + (zR w r 3))) r 2 0) r 3 0) 213 a d) (zs_213 (w := (zsR (zsR (zsI w 303 q ((zR w r 2) + (zR w r 3))) r 2 0) r 3 0)) k_a _) (zsI_oth (zsR (zsR (zsI w 303 q ((zR w r 2) + (zR w r 3))) r 2 0) r 3 0) 213 a _) (fun _ => rfl) dX2_letGo_13 (fun H locs hH hS => ?_)
  refine lv_aload_n hx hb dX2_letGo_16 rfl (lv_at hl 0 rfl) ?_
  refine lv_iconst (v := 1) hx hb dX2_letGo_17 (by decide) ?_
  refine z_put (C := RX2) (T := TX2) (N := 14) (ci := 2) (index := 43) (v := .int 1) (ty := .boolean) hx hb hts hi2 tyX2 tyX2_ok nmX2 hown hA hH hS (zk0 k_a (by decide)) (zE_k3 k_a) rfl 12 (by decide) (hts (.fieldLink RX2 43 "ParoleCards$Person" "released" "Z") (by decide +kernel)) (fun _ h9 => h9) rfl (by decide +kernel) rfl rfl (Nat.le_of_ble_eq_true rfl) (w' := zsI (zsI (zsR (zsR (zsI w 303 q ((zR w r 2) + (zR w r 3))) r 2 0) r 3 0) 213 a d) 212 a 1) (zs_212 (w := (zsI (zsR (zsR (zsI w 303 q ((zR w r 2) + (zR w r 3))) r 2 0) r 3 0) 213 a d)) k_a _) (zsI_oth (zsI (zsR (zsR (zsI w 303 q ((zR w r 2) + (zR w r 3))) r 2 0) r 3 0) 213 a d) 212 a _) (fun _ => rfl) dX2_letGo_18 (fun H locs hH hS => ?_)
  exact z_vret hx hb hr hlocks hH hS (by exact rfl) (by decide) (by decide) dX2_letGo_21
set_option maxHeartbeats 4000000 in
set_option maxRecDepth 100000 in
theorem c2_letGo_s (l : Launch) (D : va_G) (cy : Nat → ClassId) (base : Nat) (w : zW) (a : Nat) (d : Int32) (o : Nat) (t : Nat) (q : Nat) (r : Nat) (k_a : zK w a = 3) (p210_a : zP w 210 a = some o) (k_o : zK w o = 2) (p102_o : zP w 102 o = some t) (k_t : zK w t = 5) (p211_a : zP w 211 a = some q) (k_q : zK w q = 4) (p300_q : zP w 300 q = some r) (k_r : zK w r = 15) (n_r : zN w r = 4) : Met l yX2_letGo wsX2_letGo ({ frames := 1, cells := 0, slots := 0, locals := 21 }) (zPc D cy base (zH D cy base) [.ref a, .int d] w) (zQv base (zH D cy base) (fun (u0 : zW) => u0 = (zsI (zsI (zsR (zsR (zsI (zsP (zsI (zsI w 105 o ((zI w 105 o) - 1)) 401 t ((zI w 401 t) - 1)) 210 a none) 303 q ((zR w r 2) + (zR w r 3))) r 2 0) r 3 0) 213 a d) 212 a 1))) 0 0 (fun q => base ≤ q) := by
  refine Met.ofW (cc := cX2_letGo) (maxL := 2) (ret := none) (by decide) rfl ?_
  intro p e s m args below meth c s₁ B9 hml hv
  obtain ⟨rfl, hA, hH⟩ := hv
  have hx := B9.exec
  have hb := B9.bytes
  have hr := B9.returns
  have hts := atoms_spec (ws := wsX2_letGo) B9.pre
  have hown : s.vm.findClass RX2 = some m.cls := findClass_of_methodNamed B9.named
  have hlocks := B9.notSynchronized
  have hi2 : ∀ w ∈ wsX20, w ∈ wsX2_letGo := by decide +kernel
  have hS : va_S (fun q : Nat => base ≤ q) s.heap s.heap [] := va_S.rf
  have hl := lv_entry ([.ref a, .int d]) (n := 2) (Nat.le_of_ble_eq_true rfl)
  rw [lg_entry_eq]
  generalize (lg_sl ([.ref a, .int d]) ++ List.replicate (2 - (lg_sl ([.ref a, .int d])).length) Slot.unset).toArray = ls at hl ⊢
  have hl : lv_has ls 2 [(0, .ref a), (1, .int d)] := hl
  refine lv_aload_n hx hb dX2_letGo_0 rfl (lv_at hl 0 rfl) ?_
  refine z_callv (va_runV (As := []) (rest := []) ⟨hx, hb, hml, hown, hts⟩ (c2_leaveOrder_s l D cy base w a o t k_a p210_a k_o p102_o k_t) (cwV 0 hts gX2_letGo_X2_leaveOrder rfl rfl rfl (by decide +kernel) ⟨Nat.le_of_ble_eq_true rfl, Nat.le_of_ble_eq_true rfl⟩) (z_preV hA hS hH (z_recv hA hH (zk0 k_a (by decide)) (zE_k3 k_a) (q := (RX2, TX2, 14)) rfl)) rfl rfl hl.1 rfl (lv_room (Nat.le_of_ble_eq_true rfl)) dX2_letGo_1 ⟨Nat.le_of_ble_eq_true rfl, Nat.le_of_ble_eq_true rfl⟩) hS (fun u_k_1 H locs hw_k_1 hH hz_k_1 hS => ?_)
  have hu_k_1 := hw_k_1
  rw [hu_k_1] at hH
  refine lv_aload_n hx hb dX2_letGo_4 rfl (lv_at hl 0 rfl) ?_
  refine z_get (C := RX2) (T := TX2) (N := 14) (ci := 2) (index := 24) (v := .ref q) hx hb hts hi2 hown hA hH (zk0 k_a (by decide)) (zE_k3 k_a) rfl 11 (by decide) (hts (.fieldLink RX2 24 "ParoleCards$Person" "purse" "LParoleCards$Purse;") (by decide +kernel)) (fun _ h9 => h9) (congrArg (fun z => some (va_rf z)) p211_a) dX2_letGo_5 ?_
  refine z_callv (va_runV (As := []) (rest := []) ⟨hx, hb, hml, hown, hts⟩ (c3_payOut l D cy base (zsP (zsI (zsI w 105 o ((zI w 105 o) - 1)) 401 t ((zI w 401 t) - 1)) 210 a none) q r k_q p300_q k_r n_r) (cwV 0 hts gX2_letGo_X3_payOut rfl rfl rfl (by decide +kernel) ⟨Nat.le_of_ble_eq_true rfl, Nat.le_of_ble_eq_true rfl⟩) (z_preV hA hS hH (z_recv hA hH (zk0 k_q (by decide)) (zE_k4 k_q) (q := (RX3, TX3, 4)) rfl)) rfl rfl hl.1 rfl (lv_room (Nat.le_of_ble_eq_true rfl)) dX2_letGo_8 ⟨Nat.le_of_ble_eq_true rfl, Nat.le_of_ble_eq_true rfl⟩) hS (fun u_k_2 H locs hw_k_2 hH hz_k_2 hS => ?_)
  have hu_k_2 := hw_k_2
  rw [hu_k_2] at hH
  refine lv_aload_n hx hb dX2_letGo_11 rfl (lv_at hl 0 rfl) ?_
  refine lv_iload_n hx hb dX2_letGo_12 rfl (lv_at hl 1 rfl) ?_
  refine z_put (C := RX2) (T := TX2) (N := 14) (ci := 2) (index := 47) (v := .int d) (ty := .int) hx hb hts hi2 tyX2 tyX2_ok nmX2 hown hA hH hS (zk0 k_a (by decide)) (zE_k3 k_a) rfl 13 (by decide) (hts (.fieldLink RX2 47 "ParoleCards$Person" "releasedOn" "I") (by decide +kernel)) (fun _ h9 => h9) rfl (by decide +kernel) rfl rfl (Nat.le_of_ble_eq_true rfl) (w' := zsI (zsR (zsR (zsI (zsP (zsI (zsI w 105 o ((zI w 105 o) - 1)) 401 t ((zI w 401 t) - 1)) 210 a none) 303 q ((zR w r 2) + (zR w r 3))) r 2 0) r 3 0) 213 a d) (zs_213 (w := (zsR (zsR (zsI (zsP (zsI (zsI w 105 o ((zI w 105 o) - 1)) 401 t ((zI w 401 t) - 1)) 210 a none) 303 q ((zR w r 2) + (zR w r 3))) r 2 0) r 3 0)) k_a _) (zsI_oth (zsR (zsR (zsI (zsP (zsI (zsI w 105 o ((zI w 105 o) - 1)) 401 t ((zI w 401 t) - 1)) 210 a none) 303 q ((zR w r 2) + (zR w r 3))) r 2 0) r 3 0) 213 a _) (fun _ => rfl) dX2_letGo_13 (fun H locs hH hS => ?_)
  refine lv_aload_n hx hb dX2_letGo_16 rfl (lv_at hl 0 rfl) ?_
  refine lv_iconst (v := 1) hx hb dX2_letGo_17 (by decide) ?_
  refine z_put (C := RX2) (T := TX2) (N := 14) (ci := 2) (index := 43) (v := .int 1) (ty := .boolean) hx hb hts hi2 tyX2 tyX2_ok nmX2 hown hA hH hS (zk0 k_a (by decide)) (zE_k3 k_a) rfl 12 (by decide) (hts (.fieldLink RX2 43 "ParoleCards$Person" "released" "Z") (by decide +kernel)) (fun _ h9 => h9) rfl (by decide +kernel) rfl rfl (Nat.le_of_ble_eq_true rfl) (w' := zsI (zsI (zsR (zsR (zsI (zsP (zsI (zsI w 105 o ((zI w 105 o) - 1)) 401 t ((zI w 401 t) - 1)) 210 a none) 303 q ((zR w r 2) + (zR w r 3))) r 2 0) r 3 0) 213 a d) 212 a 1) (zs_212 (w := (zsI (zsR (zsR (zsI (zsP (zsI (zsI w 105 o ((zI w 105 o) - 1)) 401 t ((zI w 401 t) - 1)) 210 a none) 303 q ((zR w r 2) + (zR w r 3))) r 2 0) r 3 0) 213 a d)) k_a _) (zsI_oth (zsI (zsR (zsR (zsI (zsP (zsI (zsI w 105 o ((zI w 105 o) - 1)) 401 t ((zI w 401 t) - 1)) 210 a none) 303 q ((zR w r 2) + (zR w r 3))) r 2 0) r 3 0) 213 a d) 212 a _) (fun _ => rfl) dX2_letGo_18 (fun H locs hH hS => ?_)
  exact z_vret hx hb hr hlocks hH hS (by exact rfl) (by decide) (by decide) dX2_letGo_21
set_option maxHeartbeats 4000000 in
set_option maxRecDepth 100000 in
theorem c4_init (l : Launch) (D : va_G) (cy : Nat → ClassId) (base : Nat) (w : zW) (a : Nat) (k_a : zK w a = 5) : Met l yX4_init wsX4_init ({ frames := 1, cells := 0, slots := 0, locals := 20 }) (zPc D cy base (zH D cy base) [.ref a] w) (zQv base (zH D cy base) (fun (u0 : zW) => u0 = w)) 0 0 (fun q => base ≤ q) := by
  refine Met.ofW (cc := cX4_init) (maxL := 1) (ret := none) (by decide) rfl ?_
  intro p e s m args below meth c s₁ B9 hml hv
  obtain ⟨rfl, hA, hH⟩ := hv
  have hx := B9.exec
  have hb := B9.bytes
  have hr := B9.returns
  have hts := atoms_spec (ws := wsX4_init) B9.pre
  have hown : s.vm.findClass RX4 = some m.cls := findClass_of_methodNamed B9.named
  have hlocks := B9.notSynchronized
  have hin : meth.name = "<init>" := (name_of_methodNamed B9.named B9.method).1
  have hS : va_S (fun q : Nat => base ≤ q) s.heap s.heap [] := va_S.rf
  have hl := lv_entry ([.ref a]) (n := 1) (Nat.le_of_ble_eq_true rfl)
  rw [lg_entry_eq]
  generalize (lg_sl ([.ref a]) ++ List.replicate (1 - (lg_sl ([.ref a])).length) Slot.unset).toArray = ls at hl ⊢
  have hl : lv_has ls 1 [(0, .ref a)] := hl
  refine lv_aload_n hx hb dX4_init_0 rfl (lv_at hl 0 rfl) ?_
  refine W.objInit hx hb hown (hts (.methodLink RX4 1 objectInit) (by decide +kernel)) (hts (.instanceMethod objectInit) (by decide +kernel)) (hts (.code objectInit ⟨#[0xb1]⟩ 1 none) (by decide +kernel)) rfl (by rw [hml]; exact hl.1) rfl dX4_init_1 (Nat.le_of_ble_eq_true rfl) (Nat.le_of_ble_eq_true rfl) ?_
  refine W.eq (g2 := F0 m 4 ls []) rfl ?_
  exact z_vret hx hb hr hlocks hH hS (by exact rfl) (by decide) (by decide) dX4_init_4
