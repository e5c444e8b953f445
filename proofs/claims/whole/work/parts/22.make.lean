set_option maxHeartbeats 4000000 in
set_option maxRecDepth 100000 in
theorem c3_init (l : Launch) (D : va_G) (cy : Nat → ClassId) (base : Nat) (w : zW) (q : Nat) (k_q : zK w q = 4) : Met l yX3_init wsX3_init ({ frames := 1, cells := 1, slots := 4, locals := 20 }) (zPc D cy base (zH D cy base) [.ref q] w) (zQv base (zH D cy base) (fun (u0 : zW) => (∃ n1 : Nat, zK w n1 = 0 ∧ u0 = zsP (zNew w n1 15 4) 300 q (some n1)) ∧ u0 = u0)) 1 4 (fun q => base ≤ q) := by
  refine Met.ofW (cc := cX3_init) (maxL := 1) (ret := none) (by decide) rfl ?_
  intro p e s m args below meth c s₁ B9 hml hv
  obtain ⟨rfl, hA, hH⟩ := hv
  have hx := B9.exec
  have hb := B9.bytes
  have hr := B9.returns
  have hts := atoms_spec (ws := wsX3_init) B9.pre
  have hown : s.vm.findClass RX3 = some m.cls := findClass_of_methodNamed B9.named
  have hlocks := B9.notSynchronized
  have hin : meth.name = "<init>" := (name_of_methodNamed B9.named B9.method).1
  have hi3 : ∀ w ∈ wsX30, w ∈ wsX3_init := by decide +kernel
  have hS : va_S (fun q : Nat => base ≤ q) s.heap s.heap [] := va_S.rf
  have hl := lv_entry ([.ref q]) (n := 1) (Nat.le_of_ble_eq_true rfl)
  rw [lg_entry_eq]
  generalize (lg_sl ([.ref q]) ++ List.replicate (1 - (lg_sl ([.ref q])).length) Slot.unset).toArray = ls at hl ⊢
  have hl : lv_has ls 1 [(0, .ref q)] := hl
  refine lv_aload_n hx hb dX3_init_0 rfl (lv_at hl 0 rfl) ?_
  refine W.objInit hx hb hown (hts (.methodLink RX3 3 objectInit) (by decide +kernel)) (hts (.instanceMethod objectInit) (by decide +kernel)) (hts (.code objectInit ⟨#[0xb1]⟩ 1 none) (by decide +kernel)) rfl (by rw [hml]; exact hl.1) rfl dX3_init_1 (Nat.le_of_ble_eq_true rfl) (Nat.le_of_ble_eq_true rfl) ?_
  refine W.eq (g2 := F0 m 4 ls []) rfl ?_
  refine lv_aload_n hx hb dX3_init_4 rfl (lv_at hl 0 rfl) ?_
  refine lv_iconst (v := 4) hx hb dX3_init_5 (by decide) ?_
  refine z_newa (k := 15) (t0 := 0) (N' := 4) (a0 := (4, .inl (fun _ => 0))) hx hb (hts (.arrayClass .int) (by decide +kernel)) rfl hA hH hS rfl rfl rfl (fun q => znew_a15 q 4) (by decide) (by decide) (Nat.le_of_ble_eq_true rfl) (Nat.le_of_ble_eq_true rfl) (Nat.le_of_ble_eq_true rfl) dX3_init_6 (fun n1 H hn_1 hH hS => ?_)
  have f_2 := ((zNew_old (k := 15) (n := 4) hn_1 (zk0 k_q (by decide))).2.1).trans k_q
  have f_3 := (zNew_new (w := w) (q := n1) (k := 15) (n := 4)).1
  have f_4 := (zNew_new (w := w) (q := n1) (k := 15) (n := 4)).2.2.2.1
  refine z_putF (C := RX3) (T := TX3) (N := 4) (ci := 3) (index := 9) (v := .ref n1) (ty := .array .int) hx hb hts hi3 tyX3 tyX3_ok nmX3 hown hA hH hS (zk0 f_2 (by decide)) (zE_k4 f_2) rfl 0 (by decide) (hts (.fieldLink RX3 9 "ParoleCards$Purse" "accounts" "[I") (by decide +kernel)) (fun _ h9 => h9) rfl hin rfl (by decide +kernel) rfl rfl (Nat.le_of_ble_eq_true rfl) (w' := zsP (zNew w n1 15 4) 300 q (some n1)) (zs_300 (w := (zNew w n1 15 4)) f_2 _) (zsP_oth (zNew w n1 15 4) 300 q _) (fun _ => rfl) dX3_init_8 (fun H locs hH hS => ?_)
  exact z_vret hx hb hr hlocks hH hS ⟨⟨n1, hn_1, rfl⟩, rfl⟩ (by decide) (by decide) dX3_init_11
