theorem i4 {x : Int32} : (x < 4) ↔ ¬ 3 < x := by
  rw [Int32.lt_iff_toInt_lt, Int32.lt_iff_toInt_lt, show (4 : Int32).toInt = 4 from rfl, show (3 : Int32).toInt = 3 from rfl]; omega
theorem nIlt {v : Int32} (n : Nat) (hn : n < 2 ^ 31) (c1 : ¬ v < 0) (c2 : v < nI n) : ∃ j, j < n ∧ v = nI j := by
  obtain ⟨j, hj, rfl⟩ := nI_of c1
  exact ⟨j, (nI_ltI hj hn).mp c2, rfl⟩
set_option maxHeartbeats 4000000 in
set_option maxRecDepth 100000 in
theorem c5_checkRange (l : Launch) (hl9 : l.stackTraces = false) (D : va_G) (cy : Nat → ClassId) (base : Nat) (w : zW) (v : Int32) (a : Int32) (b : Int32) : vx_Met l yX5_checkRange wsX5_checkRange ({ frames := 6, cells := 1, slots := 6, locals := 90 }) (zPc D cy base (zH D cy base) [.int v, .int a, .int b] w) (zQv base (zH D cy base) (fun (u0 : zW) => vLies v a b = true ∧ u0 = w)) (zXC base (zH D cy base) (fun (E : String) (u0 : zW) => vLies v a b = false ∧ E = zIae ∧ u0 = w)) 1 6 (fun q => base ≤ q) := by
  refine vx_ofW (cc := cX5_checkRange) (maxL := 3) (ret := none) (by decide) rfl ?_
  intro p e s m args below meth c s₁ B9 hml htab hv
  obtain ⟨rfl, hA, hH⟩ := hv
  have hx := B9.exec
  have hb := B9.bytes
  have hr := B9.returns
  have hts := atoms_spec (ws := wsX5_checkRange) B9.pre
  have hown : s.vm.findClass RX5 = some m.cls := findClass_of_methodNamed B9.named
  have hlocks := B9.notSynchronized
  have hat_231 : ∀ w ∈ (vx_atS RX5 231 zIae zUp).filter goodWord, w ∈ wsX5_checkRange := fun _ h => List.mem_cons_of_mem _ (List.mem_append_right _ h)
  have hS : va_S (fun q : Nat => base ≤ q) s.heap s.heap [] := va_S.rf
  have hl := lv_entry ([.int v, .int a, .int b]) (n := 3) (Nat.le_of_ble_eq_true rfl)
  rw [lg_entry_eq]
  generalize (lg_sl ([.int v, .int a, .int b]) ++ List.replicate (3 - (lg_sl ([.int v, .int a, .int b])).length) Slot.unset).toArray = ls at hl ⊢
  have hl : lv_has ls 3 [(0, .int v), (1, .int a), (2, .int b)] := hl
  refine lv_iload_n hx hb dX5_checkRange_0 rfl (lv_at hl 0 rfl) ?_
  refine lv_iload_n hx hb dX5_checkRange_1 rfl (lv_at hl 1 rfl) ?_
  refine lv_icmp_lt (tgt := 10) hx hb dX5_checkRange_2 (by decide) (fun c_1 => ?_) (fun c_1 => ?_)
  · exact z_throwS (cls := zIae) (text := "an argument is out of range") (is := 229) (ic := 231) (ik := 227) hx hb hl9 hown (by decide +kernel) (hts (.classLink RX5 227 "java/lang/IllegalArgumentException") (by decide +kernel)) (hts (.initialized "java/lang/IllegalArgumentException") (by decide +kernel)) hA (by decide +kernel) (fun w9 h9 => hts w9 (hat_231 w9 h9)) (by decide +kernel) (by decide +kernel) hH hS (hl.1.trans hml.symm) dX5_checkRange_10 dX5_checkRange_13 dX5_checkRange_14 dX5_checkRange_16 dX5_checkRange_19 htab (Nat.le_of_ble_eq_true rfl) (Nat.le_of_ble_eq_true rfl) (Nat.le_of_ble_eq_true rfl) (Nat.le_of_ble_eq_true rfl) hlocks (by (refine ⟨?_, rfl, rfl⟩ <;> (simp_all [vLies]; done))) (by decide) (by decide)
  · refine lv_iload_n hx hb dX5_checkRange_5 rfl (lv_at hl 0 rfl) ?_
    refine lv_iload_n hx hb dX5_checkRange_6 rfl (lv_at hl 2 rfl) ?_
    refine lv_icmp_le (tgt := 20) hx hb dX5_checkRange_7 (by decide) (fun c_2 => ?_) (fun c_2 => ?_)
    · refine vx_ret ?_
      exact z_vret hx hb hr hlocks hH hS (by (refine ⟨?_, rfl⟩ <;> (simp_all [vLies]; done))) (by decide) (by decide) dX5_checkRange_20
    · exact z_throwS (cls := zIae) (text := "an argument is out of range") (is := 229) (ic := 231) (ik := 227) hx hb hl9 hown (by decide +kernel) (hts (.classLink RX5 227 "java/lang/IllegalArgumentException") (by decide +kernel)) (hts (.initialized "java/lang/IllegalArgumentException") (by decide +kernel)) hA (by decide +kernel) (fun w9 h9 => hts w9 (hat_231 w9 h9)) (by decide +kernel) (by decide +kernel) hH hS (hl.1.trans hml.symm) dX5_checkRange_10 dX5_checkRange_13 dX5_checkRange_14 dX5_checkRange_16 dX5_checkRange_19 htab (Nat.le_of_ble_eq_true rfl) (Nat.le_of_ble_eq_true rfl) (Nat.le_of_ble_eq_true rfl) (Nat.le_of_ble_eq_true rfl) hlocks (by (refine ⟨?_, rfl, rfl⟩ <;> (simp_all [vLies]; done))) (by decide) (by decide)
set_option maxHeartbeats 4000000 in
set_option maxRecDepth 100000 in
theorem c5_checkSkill (l : Launch) (hl9 : l.stackTraces = false) (D : va_G) (cy : Nat → ClassId) (base : Nat) (w : zW) (v : Int32) : vx_Met l yX5_checkSkill wsX5_checkSkill ({ frames := 6, cells := 1, slots := 6, locals := 90 }) (zPc D cy base (zH D cy base) [.int v] w) (zQv base (zH D cy base) (fun (u0 : zW) => vLies v 0 3 = true ∧ u0 = w)) (zXC base (zH D cy base) (fun (E : String) (u0 : zW) => vLies v 0 3 = false ∧ E = zIob ∧ u0 = w)) 1 6 (fun q => base ≤ q) := by
  refine vx_ofW (cc := cX5_checkSkill) (maxL := 1) (ret := none) (by decide) rfl ?_
  intro p e s m args below meth c s₁ B9 hml htab hv
  obtain ⟨rfl, hA, hH⟩ := hv
  have hx := B9.exec
  have hb := B9.bytes
  have hr := B9.returns
  have hts := atoms_spec (ws := wsX5_checkSkill) B9.pre
  have hown : s.vm.findClass RX5 = some m.cls := findClass_of_methodNamed B9.named
  have hlocks := B9.notSynchronized
  have hat_180 : ∀ w ∈ (vx_atS RX5 180 zIob zUp).filter goodWord, w ∈ wsX5_checkSkill := fun _ h => List.mem_cons_of_mem _ (List.mem_append_right _ h)
  have hS : va_S (fun q : Nat => base ≤ q) s.heap s.heap [] := va_S.rf
  have hl := lv_entry ([.int v]) (n := 1) (Nat.le_of_ble_eq_true rfl)
  rw [lg_entry_eq]
  generalize (lg_sl ([.int v]) ++ List.replicate (1 - (lg_sl ([.int v])).length) Slot.unset).toArray = ls at hl ⊢
  have hl : lv_has ls 1 [(0, .int v)] := hl
  refine lv_iload_n hx hb dX5_checkSkill_0 rfl (lv_at hl 0 rfl) ?_
  refine lv_if_lt (tgt := 9) hx hb dX5_checkSkill_1 (by decide) (fun c_1 => ?_) (fun c_1 => ?_)
  · exact z_throwS (cls := zIob) (text := "no such skill") (is := 225) (ic := 180) (ik := 176) hx hb hl9 hown (by decide +kernel) (hts (.classLink RX5 176 "java/lang/IndexOutOfBoundsException") (by decide +kernel)) (hts (.initialized "java/lang/IndexOutOfBoundsException") (by decide +kernel)) hA (by decide +kernel) (fun w9 h9 => hts w9 (hat_180 w9 h9)) (by decide +kernel) (by decide +kernel) hH hS (hl.1.trans hml.symm) dX5_checkSkill_9 dX5_checkSkill_12 dX5_checkSkill_13 dX5_checkSkill_15 dX5_checkSkill_18 htab (Nat.le_of_ble_eq_true rfl) (Nat.le_of_ble_eq_true rfl) (Nat.le_of_ble_eq_true rfl) (Nat.le_of_ble_eq_true rfl) hlocks (by (refine ⟨?_, rfl, rfl⟩ <;> (simp_all [vLies, i4]; done))) (by decide) (by decide)
  · refine lv_iload_n hx hb dX5_checkSkill_4 rfl (lv_at hl 0 rfl) ?_
    refine lv_iconst (v := 4) hx hb dX5_checkSkill_5 (by decide) ?_
    refine lv_icmp_lt (tgt := 19) hx hb dX5_checkSkill_6 (by decide) (fun c_2 => ?_) (fun c_2 => ?_)
    · refine vx_ret ?_
      exact z_vret hx hb hr hlocks hH hS (by (refine ⟨?_, rfl⟩ <;> (simp_all [vLies, i4]; done))) (by decide) (by decide) dX5_checkSkill_19
    · exact z_throwS (cls := zIob) (text := "no such skill") (is := 225) (ic := 180) (ik := 176) hx hb hl9 hown (by decide +kernel) (hts (.classLink RX5 176 "java/lang/IndexOutOfBoundsException") (by decide +kernel)) (hts (.initialized "java/lang/IndexOutOfBoundsException") (by decide +kernel)) hA (by decide +kernel) (fun w9 h9 => hts w9 (hat_180 w9 h9)) (by decide +kernel) (by decide +kernel) hH hS (hl.1.trans hml.symm) dX5_checkSkill_9 dX5_checkSkill_12 dX5_checkSkill_13 dX5_checkSkill_15 dX5_checkSkill_18 htab (Nat.le_of_ble_eq_true rfl) (Nat.le_of_ble_eq_true rfl) (Nat.le_of_ble_eq_true rfl) (Nat.le_of_ble_eq_true rfl) hlocks (by (refine ⟨?_, rfl, rfl⟩ <;> (simp_all [vLies, i4]; done))) (by decide) (by decide)
set_option maxHeartbeats 4000000 in
set_option maxRecDepth 100000 in
theorem c5_checkIn (l : Launch) (hl9 : l.stackTraces = false) (D : va_G) (cy : Nat → ClassId) (base : Nat) (w : zW) (a : Nat) (k_a : zK w a = 3) : vx_Met l yX5_checkIn wsX5_checkIn ({ frames := 6, cells := 1, slots := 6, locals := 90 }) (zPc D cy base (zH D cy base) [.ref a] w) (zQv base (zH D cy base) (fun (u0 : zW) => (zI w 212 a) = 0 ∧ u0 = w)) (zXC base (zH D cy base) (fun (E : String) (u0 : zW) => ¬ (zI w 212 a) = 0 ∧ E = zIse ∧ u0 = w)) 1 6 (fun q => base ≤ q) := by
  refine vx_ofW (cc := cX5_checkIn) (maxL := 1) (ret := none) (by decide) rfl ?_
  intro p e s m args below meth c s₁ B9 hml htab hv
  obtain ⟨rfl, hA, hH⟩ := hv
  have hx := B9.exec
  have hb := B9.bytes
  have hr := B9.returns
  have hts := atoms_spec (ws := wsX5_checkIn) B9.pre
  have hown : s.vm.findClass RX5 = some m.cls := findClass_of_methodNamed B9.named
  have hlocks := B9.notSynchronized
  have hi2 : ∀ w ∈ wsX20, w ∈ wsX5_checkIn := by decide +kernel
  have hat_40 : ∀ w ∈ (vx_atS RX5 40 zIse zUp).filter goodWord, w ∈ wsX5_checkIn := fun _ h => List.mem_cons_of_mem _ (List.mem_append_right _ h)
  have hS : va_S (fun q : Nat => base ≤ q) s.heap s.heap [] := va_S.rf
  have hl := lv_entry ([.ref a]) (n := 1) (Nat.le_of_ble_eq_true rfl)
  rw [lg_entry_eq]
  generalize (lg_sl ([.ref a]) ++ List.replicate (1 - (lg_sl ([.ref a])).length) Slot.unset).toArray = ls at hl ⊢
  have hl : lv_has ls 1 [(0, .ref a)] := hl
  refine lv_aload_n hx hb dX5_checkIn_0 rfl (lv_at hl 0 rfl) ?_
  refine z_get (C := RX2) (T := TX2) (N := 14) (ci := 2) (index := 88) (v := .int (zI w 212 a)) hx hb hts hi2 hown hA hH (zk0 k_a (by decide)) (zE_k3 k_a) rfl 12 (by decide) (hts (.fieldLink RX5 88 "ParoleCards$Person" "released" "Z") (by decide +kernel)) (fun _ h9 => h9) rfl dX5_checkIn_1 ?_
  refine lv_if_eq (tgt := 17) hx hb dX5_checkIn_4 (by decide) (fun c_1 => ?_) (fun c_1 => ?_)
  · refine vx_ret ?_
    exact z_vret hx hb hr hlocks hH hS (by (refine ⟨?_, rfl⟩ <;> first | assumption | omega | (simp_all; done))) (by decide) (by decide) dX5_checkIn_17
  · exact z_throwS (cls := zIse) (text := "the person is released") (is := 232) (ic := 40) (ik := 36) hx hb hl9 hown (by decide +kernel) (hts (.classLink RX5 36 "java/lang/IllegalStateException") (by decide +kernel)) (hts (.initialized "java/lang/IllegalStateException") (by decide +kernel)) hA (by decide +kernel) (fun w9 h9 => hts w9 (hat_40 w9 h9)) (by decide +kernel) (by decide +kernel) hH hS (hl.1.trans hml.symm) dX5_checkIn_7 dX5_checkIn_10 dX5_checkIn_11 dX5_checkIn_13 dX5_checkIn_16 htab (Nat.le_of_ble_eq_true rfl) (Nat.le_of_ble_eq_true rfl) (Nat.le_of_ble_eq_true rfl) (Nat.le_of_ble_eq_true rfl) hlocks (by (refine ⟨?_, rfl, rfl⟩ <;> first | assumption | omega | (simp_all; done))) (by decide) (by decide)
set_option maxHeartbeats 4000000 in
set_option maxRecDepth 100000 in
theorem c5_findPerson_t (l : Launch) (hl9 : l.stackTraces = false) (D : va_G) (cy : Nat → ClassId) (base : Nat) (w : zW) (x : Nat) (i : Nat) (A : Nat) (z : Nat) (k_x : zK w x = 6) (p500_x : zP w 500 x = some A) (k_A : zK w A = 12) (n_A : zN w A = 10) (qz : zQ w A i = some z) (hi : i < 10) : vx_Met l yX5_findPerson wsX5_findPerson ({ frames := 0, cells := 1, slots := 6, locals := 0 }) (zPc D cy base (zH D cy base) [.ref x, .int (nI i)] w) (zQr base (zH D cy base) (fun (r0 : Nat) (u0 : zW) => r0 = z ∧ u0 = w)) (zXC base (zH D cy base) (fun (E : String) (u0 : zW) => False)) 1 6 (fun q => base ≤ q) := by
  refine vx_ofW (cc := cX5_findPerson) (maxL := 3) (ret := (some (.object "ParoleCards$Person"))) (by decide) rfl ?_
  intro p e s m args below meth c s₁ B9 hml htab hv
  obtain ⟨rfl, hA, hH⟩ := hv
  have hx := B9.exec
  have hb := B9.bytes
  have hr := B9.returns
  have hts := atoms_spec (ws := wsX5_findPerson) B9.pre
  have hown : s.vm.findClass RX5 = some m.cls := findClass_of_methodNamed B9.named
  have hlocks := B9.notSynchronized
  have hi5 : ∀ w ∈ wsX50, w ∈ wsX5_findPerson := by decide +kernel
  have hS : va_S (fun q : Nat => base ≤ q) s.heap s.heap [] := va_S.rf
  have hl := lv_entry ([.ref x, .int (nI i)]) (n := 3) (Nat.le_of_ble_eq_true rfl)
  rw [lg_entry_eq]
  generalize (lg_sl ([.ref x, .int (nI i)]) ++ List.replicate (3 - (lg_sl ([.ref x, .int (nI i)])).length) Slot.unset).toArray = ls at hl ⊢
  have hl : lv_has ls 3 [(0, .ref x), (1, .int (nI i))] := hl
  refine lv_iload_n hx hb dX5_findPerson_0 rfl (lv_at hl 1 rfl) ?_
  refine lv_if_lt (tgt := 13) hx hb dX5_findPerson_1 (by decide) (fun c_1 => absurd c_1 (nI_pos (by omega))) (fun c_1 => ?_)
  refine lv_iload_n hx hb dX5_findPerson_4 rfl (lv_at hl 1 rfl) ?_
  refine lv_aload_n hx hb dX5_findPerson_5 rfl (lv_at hl 0 rfl) ?_
  refine z_get (C := RX5) (T := TX5) (N := 6) (ci := 5) (index := 11) (v := .ref A) hx hb hts hi5 hown hA hH (zk0 k_x (by decide)) (zE_k6 k_x) rfl 0 (by decide) (hts (.fieldLink RX5 11 "ParoleCards" "people" "[LParoleCards$Person;") (by decide +kernel)) (fun _ h9 => h9) (congrArg (fun z => some (va_rf z)) p500_x) dX5_findPerson_6 ?_
  refine z_alen (v := 10) hx hb hA hH (zk0 k_A (by decide)) (zE_k12 k_A) 4 rfl (congrArg Int32.ofNat n_A) dX5_findPerson_9 ?_
  refine lv_icmp_lt (tgt := 23) hx hb dX5_findPerson_10 (by decide) (fun c_2 => ?_) (fun c_2 => absurd (nI_lt (b := 10) hi (by decide)) c_2)
  refine lv_aload_n hx hb dX5_findPerson_23 rfl (lv_at hl 0 rfl) ?_
  refine z_get (C := RX5) (T := TX5) (N := 6) (ci := 5) (index := 11) (v := .ref A) hx hb hts hi5 hown hA hH (zk0 k_x (by decide)) (zE_k6 k_x) rfl 0 (by decide) (hts (.fieldLink RX5 11 "ParoleCards" "people" "[LParoleCards$Person;") (by decide +kernel)) (fun _ h9 => h9) (congrArg (fun z => some (va_rf z)) p500_x) dX5_findPerson_24 ?_
  refine lv_iload_n hx hb dX5_findPerson_27 rfl (lv_at hl 1 rfl) ?_
  refine z_aald (v := (some z)) hx hb hA hH (zk0 k_A (by decide)) (zEn (zE_k12 k_A) n_A) 4 rfl i rfl (by omega) (by decide) qz dX5_findPerson_28 ?_
  refine lv_astore_n (lv' := [(2, .ref z), (0, .ref x), (1, .int (nI i))]) hx hb dX5_findPerson_29 rfl hl (by decide) rfl (fun ls hl => ?_)
  refine lv_aload_n hx hb dX5_findPerson_30 rfl (lv_at hl 0 rfl) ?_
  refine lv_ifnonnull (tgt := 44) hx hb dX5_findPerson_31 (by decide) ?_
  refine lv_aload_n hx hb dX5_findPerson_44 rfl (lv_at hl 0 rfl) ?_
  refine vx_ret ?_
  exact z_aret hx hb hr hlocks hH hS (by exact ⟨rfl, rfl⟩) (by decide) (by decide) dX5_findPerson_45
set_option maxHeartbeats 4000000 in
set_option maxRecDepth 100000 in
theorem c5_findPerson_f (l : Launch) (hl9 : l.stackTraces = false) (D : va_G) (cy : Nat → ClassId) (base : Nat) (w : zW) (x : Nat) (v : Int32) (A : Nat) (k_x : zK w x = 6) (p500_x : zP w 500 x = some A) (k_A : zK w A = 12) (n_A : zN w A = 10) (hno : ∀ i, i < 10 → v = nI i → zQ w A i = none) : vx_Met l yX5_findPerson wsX5_findPerson ({ frames := 6, cells := 1, slots := 6, locals := 90 }) (zPc D cy base (zH D cy base) [.ref x, .int v] w) (zQr base (zH D cy base) (fun (r0 : Nat) (u0 : zW) => False)) (zXC base (zH D cy base) (fun (E : String) (u0 : zW) => E = zIob ∧ u0 = w)) 1 6 (fun q => base ≤ q) := by
  refine vx_ofW (cc := cX5_findPerson) (maxL := 3) (ret := (some (.object "ParoleCards$Person"))) (by decide) rfl ?_
  intro p e s m args below meth c s₁ B9 hml htab hv
  obtain ⟨rfl, hA, hH⟩ := hv
  have hx := B9.exec
  have hb := B9.bytes
  have hr := B9.returns
  have hts := atoms_spec (ws := wsX5_findPerson) B9.pre
  have hown : s.vm.findClass RX5 = some m.cls := findClass_of_methodNamed B9.named
  have hlocks := B9.notSynchronized
  have hi5 : ∀ w ∈ wsX50, w ∈ wsX5_findPerson := by decide +kernel
  have hat_180 : ∀ w ∈ (vx_atS RX5 180 zIob zUp).filter goodWord, w ∈ wsX5_findPerson := fun _ h => List.mem_cons_of_mem _ (List.mem_append_right _ h)
  have hS : va_S (fun q : Nat => base ≤ q) s.heap s.heap [] := va_S.rf
  have hl := lv_entry ([.ref x, .int v]) (n := 3) (Nat.le_of_ble_eq_true rfl)
  rw [lg_entry_eq]
  generalize (lg_sl ([.ref x, .int v]) ++ List.replicate (3 - (lg_sl ([.ref x, .int v])).length) Slot.unset).toArray = ls at hl ⊢
  have hl : lv_has ls 3 [(0, .ref x), (1, .int v)] := hl
  refine lv_iload_n hx hb dX5_findPerson_0 rfl (lv_at hl 1 rfl) ?_
  refine lv_if_lt (tgt := 13) hx hb dX5_findPerson_1 (by decide) (fun c_1 => ?_) (fun c_1 => ?_)
  · exact z_throwS (cls := zIob) (text := "no such person") (is := 213) (ic := 180) (ik := 176) hx hb hl9 hown (by decide +kernel) (hts (.classLink RX5 176 "java/lang/IndexOutOfBoundsException") (by decide +kernel)) (hts (.initialized "java/lang/IndexOutOfBoundsException") (by decide +kernel)) hA (by decide +kernel) (fun w9 h9 => hts w9 (hat_180 w9 h9)) (by decide +kernel) (by decide +kernel) hH hS (hl.1.trans hml.symm) dX5_findPerson_13 dX5_findPerson_16 dX5_findPerson_17 dX5_findPerson_19 dX5_findPerson_22 htab (Nat.le_of_ble_eq_true rfl) (Nat.le_of_ble_eq_true rfl) (Nat.le_of_ble_eq_true rfl) (Nat.le_of_ble_eq_true rfl) hlocks (by exact ⟨rfl, rfl⟩) (by decide) (by decide)
  · refine lv_iload_n hx hb dX5_findPerson_4 rfl (lv_at hl 1 rfl) ?_
    refine lv_aload_n hx hb dX5_findPerson_5 rfl (lv_at hl 0 rfl) ?_
    refine z_get (C := RX5) (T := TX5) (N := 6) (ci := 5) (index := 11) (v := .ref A) hx hb hts hi5 hown hA hH (zk0 k_x (by decide)) (zE_k6 k_x) rfl 0 (by decide) (hts (.fieldLink RX5 11 "ParoleCards" "people" "[LParoleCards$Person;") (by decide +kernel)) (fun _ h9 => h9) (congrArg (fun z => some (va_rf z)) p500_x) dX5_findPerson_6 ?_
    refine z_alen (v := 10) hx hb hA hH (zk0 k_A (by decide)) (zE_k12 k_A) 4 rfl (congrArg Int32.ofNat n_A) dX5_findPerson_9 ?_
    refine lv_icmp_lt (tgt := 23) hx hb dX5_findPerson_10 (by decide) (fun c_2 => ?_) (fun c_2 => ?_)
    · obtain ⟨j, hj, hvj⟩ := nIlt 10 (by decide) c_1 c_2
      refine lv_aload_n hx hb dX5_findPerson_23 rfl (lv_at hl 0 rfl) ?_
      refine z_get (C := RX5) (T := TX5) (N := 6) (ci := 5) (index := 11) (v := .ref A) hx hb hts hi5 hown hA hH (zk0 k_x (by decide)) (zE_k6 k_x) rfl 0 (by decide) (hts (.fieldLink RX5 11 "ParoleCards" "people" "[LParoleCards$Person;") (by decide +kernel)) (fun _ h9 => h9) (congrArg (fun z => some (va_rf z)) p500_x) dX5_findPerson_24 ?_
      refine lv_iload_n hx hb dX5_findPerson_27 rfl (lv_at hl 1 rfl) ?_
      refine z_aald (v := none) hx hb hA hH (zk0 k_A (by decide)) (zEn (zE_k12 k_A) n_A) 4 rfl j hvj hj (by decide) (hno j hj hvj) dX5_findPerson_28 ?_
      refine lv_astore_nN (lv' := [(2, .null), (0, .ref x), (1, .int v)]) hx hb dX5_findPerson_29 rfl hl (by decide) rfl (fun ls hl => ?_)
      refine lv_aload_nN hx hb dX5_findPerson_30 rfl (lv_at hl 0 rfl) ?_
      refine lv_ifnonnullN hx hb dX5_findPerson_31 ?_
      exact z_throwS (cls := zIob) (text := "no such person") (is := 213) (ic := 180) (ik := 176) hx hb hl9 hown (by decide +kernel) (hts (.classLink RX5 176 "java/lang/IndexOutOfBoundsException") (by decide +kernel)) (hts (.initialized "java/lang/IndexOutOfBoundsException") (by decide +kernel)) hA (by decide +kernel) (fun w9 h9 => hts w9 (hat_180 w9 h9)) (by decide +kernel) (by decide +kernel) hH hS (hl.1.trans hml.symm) dX5_findPerson_34 dX5_findPerson_37 dX5_findPerson_38 dX5_findPerson_40 dX5_findPerson_43 htab (Nat.le_of_ble_eq_true rfl) (Nat.le_of_ble_eq_true rfl) (Nat.le_of_ble_eq_true rfl) (Nat.le_of_ble_eq_true rfl) hlocks (by exact ⟨rfl, rfl⟩) (by decide) (by decide)
    · exact z_throwS (cls := zIob) (text := "no such person") (is := 213) (ic := 180) (ik := 176) hx hb hl9 hown (by decide +kernel) (hts (.classLink RX5 176 "java/lang/IndexOutOfBoundsException") (by decide +kernel)) (hts (.initialized "java/lang/IndexOutOfBoundsException") (by decide +kernel)) hA (by decide +kernel) (fun w9 h9 => hts w9 (hat_180 w9 h9)) (by decide +kernel) (by decide +kernel) hH hS (hl.1.trans hml.symm) dX5_findPerson_13 dX5_findPerson_16 dX5_findPerson_17 dX5_findPerson_19 dX5_findPerson_22 htab (Nat.le_of_ble_eq_true rfl) (Nat.le_of_ble_eq_true rfl) (Nat.le_of_ble_eq_true rfl) (Nat.le_of_ble_eq_true rfl) hlocks (by exact ⟨rfl, rfl⟩) (by decide) (by decide)
set_option maxHeartbeats 4000000 in
set_option maxRecDepth 100000 in
theorem c5_findOrder_t (l : Launch) (hl9 : l.stackTraces = false) (D : va_G) (cy : Nat → ClassId) (base : Nat) (w : zW) (x : Nat) (i : Nat) (A : Nat) (z : Nat) (k_x : zK w x = 6) (p501_x : zP w 501 x = some A) (k_A : zK w A = 11) (n_A : zN w A = 8) (qz : zQ w A i = some z) (hi : i < 8) : vx_Met l yX5_findOrder wsX5_findOrder ({ frames := 0, cells := 1, slots := 6, locals := 0 }) (zPc D cy base (zH D cy base) [.ref x, .int (nI i)] w) (zQr base (zH D cy base) (fun (r0 : Nat) (u0 : zW) => r0 = z ∧ u0 = w)) (zXC base (zH D cy base) (fun (E : String) (u0 : zW) => False)) 1 6 (fun q => base ≤ q) := by
  refine vx_ofW (cc := cX5_findOrder) (maxL := 3) (ret := (some (.object "ParoleCards$Order"))) (by decide) rfl ?_
  intro p e s m args below meth c s₁ B9 hml htab hv
  obtain ⟨rfl, hA, hH⟩ := hv
  have hx := B9.exec
  have hb := B9.bytes
  have hr := B9.returns
  have hts := atoms_spec (ws := wsX5_findOrder) B9.pre
  have hown : s.vm.findClass RX5 = some m.cls := findClass_of_methodNamed B9.named
  have hlocks := B9.notSynchronized
  have hi5 : ∀ w ∈ wsX50, w ∈ wsX5_findOrder := by decide +kernel
  have hS : va_S (fun q : Nat => base ≤ q) s.heap s.heap [] := va_S.rf
  have hl := lv_entry ([.ref x, .int (nI i)]) (n := 3) (Nat.le_of_ble_eq_true rfl)
  rw [lg_entry_eq]
  generalize (lg_sl ([.ref x, .int (nI i)]) ++ List.replicate (3 - (lg_sl ([.ref x, .int (nI i)])).length) Slot.unset).toArray = ls at hl ⊢
  have hl : lv_has ls 3 [(0, .ref x), (1, .int (nI i))] := hl
  refine lv_iload_n hx hb dX5_findOrder_0 rfl (lv_at hl 1 rfl) ?_
  refine lv_if_lt (tgt := 13) hx hb dX5_findOrder_1 (by decide) (fun c_1 => absurd c_1 (nI_pos (by omega))) (fun c_1 => ?_)
  refine lv_iload_n hx hb dX5_findOrder_4 rfl (lv_at hl 1 rfl) ?_
  refine lv_aload_n hx hb dX5_findOrder_5 rfl (lv_at hl 0 rfl) ?_
  refine z_get (C := RX5) (T := TX5) (N := 6) (ci := 5) (index := 17) (v := .ref A) hx hb hts hi5 hown hA hH (zk0 k_x (by decide)) (zE_k6 k_x) rfl 1 (by decide) (hts (.fieldLink RX5 17 "ParoleCards" "orders" "[LParoleCards$Order;") (by decide +kernel)) (fun _ h9 => h9) (congrArg (fun z => some (va_rf z)) p501_x) dX5_findOrder_6 ?_
  refine z_alen (v := 8) hx hb hA hH (zk0 k_A (by decide)) (zE_k11 k_A) 3 rfl (congrArg Int32.ofNat n_A) dX5_findOrder_9 ?_
  refine lv_icmp_lt (tgt := 23) hx hb dX5_findOrder_10 (by decide) (fun c_2 => ?_) (fun c_2 => absurd (nI_lt (b := 8) hi (by decide)) c_2)
  refine lv_aload_n hx hb dX5_findOrder_23 rfl (lv_at hl 0 rfl) ?_
  refine z_get (C := RX5) (T := TX5) (N := 6) (ci := 5) (index := 17) (v := .ref A) hx hb hts hi5 hown hA hH (zk0 k_x (by decide)) (zE_k6 k_x) rfl 1 (by decide) (hts (.fieldLink RX5 17 "ParoleCards" "orders" "[LParoleCards$Order;") (by decide +kernel)) (fun _ h9 => h9) (congrArg (fun z => some (va_rf z)) p501_x) dX5_findOrder_24 ?_
  refine lv_iload_n hx hb dX5_findOrder_27 rfl (lv_at hl 1 rfl) ?_
  refine z_aald (v := (some z)) hx hb hA hH (zk0 k_A (by decide)) (zEn (zE_k11 k_A) n_A) 3 rfl i rfl (by omega) (by decide) qz dX5_findOrder_28 ?_
  refine lv_astore_n (lv' := [(2, .ref z), (0, .ref x), (1, .int (nI i))]) hx hb dX5_findOrder_29 rfl hl (by decide) rfl (fun ls hl => ?_)
  refine lv_aload_n hx hb dX5_findOrder_30 rfl (lv_at hl 0 rfl) ?_
  refine lv_ifnonnull (tgt := 44) hx hb dX5_findOrder_31 (by decide) ?_
  refine lv_aload_n hx hb dX5_findOrder_44 rfl (lv_at hl 0 rfl) ?_
  refine vx_ret ?_
  exact z_aret hx hb hr hlocks hH hS (by exact ⟨rfl, rfl⟩) (by decide) (by decide) dX5_findOrder_45
set_option maxHeartbeats 4000000 in
set_option maxRecDepth 100000 in
theorem c5_findOrder_f (l : Launch) (hl9 : l.stackTraces = false) (D : va_G) (cy : Nat → ClassId) (base : Nat) (w : zW) (x : Nat) (v : Int32) (A : Nat) (k_x : zK w x = 6) (p501_x : zP w 501 x = some A) (k_A : zK w A = 11) (n_A : zN w A = 8) (hno : ∀ i, i < 8 → v = nI i → zQ w A i = none) : vx_Met l yX5_findOrder wsX5_findOrder ({ frames := 6, cells := 1, slots := 6, locals := 90 }) (zPc D cy base (zH D cy base) [.ref x, .int v] w) (zQr base (zH D cy base) (fun (r0 : Nat) (u0 : zW) => False)) (zXC base (zH D cy base) (fun (E : String) (u0 : zW) => E = zIob ∧ u0 = w)) 1 6 (fun q => base ≤ q) := by
  refine vx_ofW (cc := cX5_findOrder) (maxL := 3) (ret := (some (.object "ParoleCards$Order"))) (by decide) rfl ?_
  intro p e s m args below meth c s₁ B9 hml htab hv
  obtain ⟨rfl, hA, hH⟩ := hv
  have hx := B9.exec
  have hb := B9.bytes
  have hr := B9.returns
  have hts := atoms_spec (ws := wsX5_findOrder) B9.pre
  have hown : s.vm.findClass RX5 = some m.cls := findClass_of_methodNamed B9.named
  have hlocks := B9.notSynchronized
  have hi5 : ∀ w ∈ wsX50, w ∈ wsX5_findOrder := by decide +kernel
  have hat_180 : ∀ w ∈ (vx_atS RX5 180 zIob zUp).filter goodWord, w ∈ wsX5_findOrder := fun _ h => List.mem_cons_of_mem _ (List.mem_append_right _ h)
  have hS : va_S (fun q : Nat => base ≤ q) s.heap s.heap [] := va_S.rf
  have hl := lv_entry ([.ref x, .int v]) (n := 3) (Nat.le_of_ble_eq_true rfl)
  rw [lg_entry_eq]
  generalize (lg_sl ([.ref x, .int v]) ++ List.replicate (3 - (lg_sl ([.ref x, .int v])).length) Slot.unset).toArray = ls at hl ⊢
  have hl : lv_has ls 3 [(0, .ref x), (1, .int v)] := hl
  refine lv_iload_n hx hb dX5_findOrder_0 rfl (lv_at hl 1 rfl) ?_
  refine lv_if_lt (tgt := 13) hx hb dX5_findOrder_1 (by decide) (fun c_1 => ?_) (fun c_1 => ?_)
  · exact z_throwS (cls := zIob) (text := "no such order") (is := 221) (ic := 180) (ik := 176) hx hb hl9 hown (by decide +kernel) (hts (.classLink RX5 176 "java/lang/IndexOutOfBoundsException") (by decide +kernel)) (hts (.initialized "java/lang/IndexOutOfBoundsException") (by decide +kernel)) hA (by decide +kernel) (fun w9 h9 => hts w9 (hat_180 w9 h9)) (by decide +kernel) (by decide +kernel) hH hS (hl.1.trans hml.symm) dX5_findOrder_13 dX5_findOrder_16 dX5_findOrder_17 dX5_findOrder_19 dX5_findOrder_22 htab (Nat.le_of_ble_eq_true rfl) (Nat.le_of_ble_eq_true rfl) (Nat.le_of_ble_eq_true rfl) (Nat.le_of_ble_eq_true rfl) hlocks (by exact ⟨rfl, rfl⟩) (by decide) (by decide)
  · refine lv_iload_n hx hb dX5_findOrder_4 rfl (lv_at hl 1 rfl) ?_
    refine lv_aload_n hx hb dX5_findOrder_5 rfl (lv_at hl 0 rfl) ?_
    refine z_get (C := RX5) (T := TX5) (N := 6) (ci := 5) (index := 17) (v := .ref A) hx hb hts hi5 hown hA hH (zk0 k_x (by decide)) (zE_k6 k_x) rfl 1 (by decide) (hts (.fieldLink RX5 17 "ParoleCards" "orders" "[LParoleCards$Order;") (by decide +kernel)) (fun _ h9 => h9) (congrArg (fun z => some (va_rf z)) p501_x) dX5_findOrder_6 ?_
    refine z_alen (v := 8) hx hb hA hH (zk0 k_A (by decide)) (zE_k11 k_A) 3 rfl (congrArg Int32.ofNat n_A) dX5_findOrder_9 ?_
    refine lv_icmp_lt (tgt := 23) hx hb dX5_findOrder_10 (by decide) (fun c_2 => ?_) (fun c_2 => ?_)
    · obtain ⟨j, hj, hvj⟩ := nIlt 8 (by decide) c_1 c_2
      refine lv_aload_n hx hb dX5_findOrder_23 rfl (lv_at hl 0 rfl) ?_
      refine z_get (C := RX5) (T := TX5) (N := 6) (ci := 5) (index := 17) (v := .ref A) hx hb hts hi5 hown hA hH (zk0 k_x (by decide)) (zE_k6 k_x) rfl 1 (by decide) (hts (.fieldLink RX5 17 "ParoleCards" "orders" "[LParoleCards$Order;") (by decide +kernel)) (fun _ h9 => h9) (congrArg (fun z => some (va_rf z)) p501_x) dX5_findOrder_24 ?_
      refine lv_iload_n hx hb dX5_findOrder_27 rfl (lv_at hl 1 rfl) ?_
      refine z_aald (v := none) hx hb hA hH (zk0 k_A (by decide)) (zEn (zE_k11 k_A) n_A) 3 rfl j hvj hj (by decide) (hno j hj hvj) dX5_findOrder_28 ?_
      refine lv_astore_nN (lv' := [(2, .null), (0, .ref x), (1, .int v)]) hx hb dX5_findOrder_29 rfl hl (by decide) rfl (fun ls hl => ?_)
      refine lv_aload_nN hx hb dX5_findOrder_30 rfl (lv_at hl 0 rfl) ?_
      refine lv_ifnonnullN hx hb dX5_findOrder_31 ?_
      exact z_throwS (cls := zIob) (text := "no such order") (is := 221) (ic := 180) (ik := 176) hx hb hl9 hown (by decide +kernel) (hts (.classLink RX5 176 "java/lang/IndexOutOfBoundsException") (by decide +kernel)) (hts (.initialized "java/lang/IndexOutOfBoundsException") (by decide +kernel)) hA (by decide +kernel) (fun w9 h9 => hts w9 (hat_180 w9 h9)) (by decide +kernel) (by decide +kernel) hH hS (hl.1.trans hml.symm) dX5_findOrder_34 dX5_findOrder_37 dX5_findOrder_38 dX5_findOrder_40 dX5_findOrder_43 htab (Nat.le_of_ble_eq_true rfl) (Nat.le_of_ble_eq_true rfl) (Nat.le_of_ble_eq_true rfl) (Nat.le_of_ble_eq_true rfl) hlocks (by exact ⟨rfl, rfl⟩) (by decide) (by decide)
    · exact z_throwS (cls := zIob) (text := "no such order") (is := 221) (ic := 180) (ik := 176) hx hb hl9 hown (by decide +kernel) (hts (.classLink RX5 176 "java/lang/IndexOutOfBoundsException") (by decide +kernel)) (hts (.initialized "java/lang/IndexOutOfBoundsException") (by decide +kernel)) hA (by decide +kernel) (fun w9 h9 => hts w9 (hat_180 w9 h9)) (by decide +kernel) (by decide +kernel) hH hS (hl.1.trans hml.symm) dX5_findOrder_13 dX5_findOrder_16 dX5_findOrder_17 dX5_findOrder_19 dX5_findOrder_22 htab (Nat.le_of_ble_eq_true rfl) (Nat.le_of_ble_eq_true rfl) (Nat.le_of_ble_eq_true rfl) (Nat.le_of_ble_eq_true rfl) hlocks (by exact ⟨rfl, rfl⟩) (by decide) (by decide)
set_option maxHeartbeats 4000000 in
set_option maxRecDepth 100000 in
theorem c5_findTools_t (l : Launch) (hl9 : l.stackTraces = false) (D : va_G) (cy : Nat → ClassId) (base : Nat) (w : zW) (x : Nat) (i : Nat) (A : Nat) (z : Nat) (k_x : zK w x = 6) (p502_x : zP w 502 x = some A) (k_A : zK w A = 13) (n_A : zN w A = 3) (qz : zQ w A i = some z) (hi : i < 3) : vx_Met l yX5_findTools wsX5_findTools ({ frames := 0, cells := 1, slots := 6, locals := 0 }) (zPc D cy base (zH D cy base) [.ref x, .int (nI i)] w) (zQr base (zH D cy base) (fun (r0 : Nat) (u0 : zW) => r0 = z ∧ u0 = w)) (zXC base (zH D cy base) (fun (E : String) (u0 : zW) => False)) 1 6 (fun q => base ≤ q) := by
  refine vx_ofW (cc := cX5_findTools) (maxL := 3) (ret := (some (.object "ParoleCards$ToolKind"))) (by decide) rfl ?_
  intro p e s m args below meth c s₁ B9 hml htab hv
  obtain ⟨rfl, hA, hH⟩ := hv
  have hx := B9.exec
  have hb := B9.bytes
  have hr := B9.returns
  have hts := atoms_spec (ws := wsX5_findTools) B9.pre
  have hown : s.vm.findClass RX5 = some m.cls := findClass_of_methodNamed B9.named
  have hlocks := B9.notSynchronized
  have hi5 : ∀ w ∈ wsX50, w ∈ wsX5_findTools := by decide +kernel
  have hS : va_S (fun q : Nat => base ≤ q) s.heap s.heap [] := va_S.rf
  have hl := lv_entry ([.ref x, .int (nI i)]) (n := 3) (Nat.le_of_ble_eq_true rfl)
  rw [lg_entry_eq]
  generalize (lg_sl ([.ref x, .int (nI i)]) ++ List.replicate (3 - (lg_sl ([.ref x, .int (nI i)])).length) Slot.unset).toArray = ls at hl ⊢
  have hl : lv_has ls 3 [(0, .ref x), (1, .int (nI i))] := hl
  refine lv_iload_n hx hb dX5_findTools_0 rfl (lv_at hl 1 rfl) ?_
  refine lv_if_lt (tgt := 13) hx hb dX5_findTools_1 (by decide) (fun c_1 => absurd c_1 (nI_pos (by omega))) (fun c_1 => ?_)
  refine lv_iload_n hx hb dX5_findTools_4 rfl (lv_at hl 1 rfl) ?_
  refine lv_aload_n hx hb dX5_findTools_5 rfl (lv_at hl 0 rfl) ?_
  refine z_get (C := RX5) (T := TX5) (N := 6) (ci := 5) (index := 23) (v := .ref A) hx hb hts hi5 hown hA hH (zk0 k_x (by decide)) (zE_k6 k_x) rfl 2 (by decide) (hts (.fieldLink RX5 23 "ParoleCards" "toolKinds" "[LParoleCards$ToolKind;") (by decide +kernel)) (fun _ h9 => h9) (congrArg (fun z => some (va_rf z)) p502_x) dX5_findTools_6 ?_
  refine z_alen (v := 3) hx hb hA hH (zk0 k_A (by decide)) (zE_k13 k_A) 5 rfl (congrArg Int32.ofNat n_A) dX5_findTools_9 ?_
  refine lv_icmp_lt (tgt := 23) hx hb dX5_findTools_10 (by decide) (fun c_2 => ?_) (fun c_2 => absurd (nI_lt (b := 3) hi (by decide)) c_2)
  refine lv_aload_n hx hb dX5_findTools_23 rfl (lv_at hl 0 rfl) ?_
  refine z_get (C := RX5) (T := TX5) (N := 6) (ci := 5) (index := 23) (v := .ref A) hx hb hts hi5 hown hA hH (zk0 k_x (by decide)) (zE_k6 k_x) rfl 2 (by decide) (hts (.fieldLink RX5 23 "ParoleCards" "toolKinds" "[LParoleCards$ToolKind;") (by decide +kernel)) (fun _ h9 => h9) (congrArg (fun z => some (va_rf z)) p502_x) dX5_findTools_24 ?_
  refine lv_iload_n hx hb dX5_findTools_27 rfl (lv_at hl 1 rfl) ?_
  refine z_aald (v := (some z)) hx hb hA hH (zk0 k_A (by decide)) (zEn (zE_k13 k_A) n_A) 5 rfl i rfl (by omega) (by decide) qz dX5_findTools_28 ?_
  refine lv_astore_n (lv' := [(2, .ref z), (0, .ref x), (1, .int (nI i))]) hx hb dX5_findTools_29 rfl hl (by decide) rfl (fun ls hl => ?_)
  refine lv_aload_n hx hb dX5_findTools_30 rfl (lv_at hl 0 rfl) ?_
  refine lv_ifnonnull (tgt := 44) hx hb dX5_findTools_31 (by decide) ?_
  refine lv_aload_n hx hb dX5_findTools_44 rfl (lv_at hl 0 rfl) ?_
  refine vx_ret ?_
  exact z_aret hx hb hr hlocks hH hS (by exact ⟨rfl, rfl⟩) (by decide) (by decide) dX5_findTools_45
set_option maxHeartbeats 4000000 in
set_option maxRecDepth 100000 in
theorem c5_findTools_f (l : Launch) (hl9 : l.stackTraces = false) (D : va_G) (cy : Nat → ClassId) (base : Nat) (w : zW) (x : Nat) (v : Int32) (A : Nat) (k_x : zK w x = 6) (p502_x : zP w 502 x = some A) (k_A : zK w A = 13) (n_A : zN w A = 3) (hno : ∀ i, i < 3 → v = nI i → zQ w A i = none) : vx_Met l yX5_findTools wsX5_findTools ({ frames := 6, cells := 1, slots := 6, locals := 90 }) (zPc D cy base (zH D cy base) [.ref x, .int v] w) (zQr base (zH D cy base) (fun (r0 : Nat) (u0 : zW) => False)) (zXC base (zH D cy base) (fun (E : String) (u0 : zW) => E = zIob ∧ u0 = w)) 1 6 (fun q => base ≤ q) := by
  refine vx_ofW (cc := cX5_findTools) (maxL := 3) (ret := (some (.object "ParoleCards$ToolKind"))) (by decide) rfl ?_
  intro p e s m args below meth c s₁ B9 hml htab hv
  obtain ⟨rfl, hA, hH⟩ := hv
  have hx := B9.exec
  have hb := B9.bytes
  have hr := B9.returns
  have hts := atoms_spec (ws := wsX5_findTools) B9.pre
  have hown : s.vm.findClass RX5 = some m.cls := findClass_of_methodNamed B9.named
  have hlocks := B9.notSynchronized
  have hi5 : ∀ w ∈ wsX50, w ∈ wsX5_findTools := by decide +kernel
  have hat_180 : ∀ w ∈ (vx_atS RX5 180 zIob zUp).filter goodWord, w ∈ wsX5_findTools := fun _ h => List.mem_cons_of_mem _ (List.mem_append_right _ h)
  have hS : va_S (fun q : Nat => base ≤ q) s.heap s.heap [] := va_S.rf
  have hl := lv_entry ([.ref x, .int v]) (n := 3) (Nat.le_of_ble_eq_true rfl)
  rw [lg_entry_eq]
  generalize (lg_sl ([.ref x, .int v]) ++ List.replicate (3 - (lg_sl ([.ref x, .int v])).length) Slot.unset).toArray = ls at hl ⊢
  have hl : lv_has ls 3 [(0, .ref x), (1, .int v)] := hl
  refine lv_iload_n hx hb dX5_findTools_0 rfl (lv_at hl 1 rfl) ?_
  refine lv_if_lt (tgt := 13) hx hb dX5_findTools_1 (by decide) (fun c_1 => ?_) (fun c_1 => ?_)
  · exact z_throwS (cls := zIob) (text := "no such kind of tool") (is := 223) (ic := 180) (ik := 176) hx hb hl9 hown (by decide +kernel) (hts (.classLink RX5 176 "java/lang/IndexOutOfBoundsException") (by decide +kernel)) (hts (.initialized "java/lang/IndexOutOfBoundsException") (by decide +kernel)) hA (by decide +kernel) (fun w9 h9 => hts w9 (hat_180 w9 h9)) (by decide +kernel) (by decide +kernel) hH hS (hl.1.trans hml.symm) dX5_findTools_13 dX5_findTools_16 dX5_findTools_17 dX5_findTools_19 dX5_findTools_22 htab (Nat.le_of_ble_eq_true rfl) (Nat.le_of_ble_eq_true rfl) (Nat.le_of_ble_eq_true rfl) (Nat.le_of_ble_eq_true rfl) hlocks (by exact ⟨rfl, rfl⟩) (by decide) (by decide)
  · refine lv_iload_n hx hb dX5_findTools_4 rfl (lv_at hl 1 rfl) ?_
    refine lv_aload_n hx hb dX5_findTools_5 rfl (lv_at hl 0 rfl) ?_
    refine z_get (C := RX5) (T := TX5) (N := 6) (ci := 5) (index := 23) (v := .ref A) hx hb hts hi5 hown hA hH (zk0 k_x (by decide)) (zE_k6 k_x) rfl 2 (by decide) (hts (.fieldLink RX5 23 "ParoleCards" "toolKinds" "[LParoleCards$ToolKind;") (by decide +kernel)) (fun _ h9 => h9) (congrArg (fun z => some (va_rf z)) p502_x) dX5_findTools_6 ?_
    refine z_alen (v := 3) hx hb hA hH (zk0 k_A (by decide)) (zE_k13 k_A) 5 rfl (congrArg Int32.ofNat n_A) dX5_findTools_9 ?_
    refine lv_icmp_lt (tgt := 23) hx hb dX5_findTools_10 (by decide) (fun c_2 => ?_) (fun c_2 => ?_)
    · obtain ⟨j, hj, hvj⟩ := nIlt 3 (by decide) c_1 c_2
      refine lv_aload_n hx hb dX5_findTools_23 rfl (lv_at hl 0 rfl) ?_
      refine z_get (C := RX5) (T := TX5) (N := 6) (ci := 5) (index := 23) (v := .ref A) hx hb hts hi5 hown hA hH (zk0 k_x (by decide)) (zE_k6 k_x) rfl 2 (by decide) (hts (.fieldLink RX5 23 "ParoleCards" "toolKinds" "[LParoleCards$ToolKind;") (by decide +kernel)) (fun _ h9 => h9) (congrArg (fun z => some (va_rf z)) p502_x) dX5_findTools_24 ?_
      refine lv_iload_n hx hb dX5_findTools_27 rfl (lv_at hl 1 rfl) ?_
      refine z_aald (v := none) hx hb hA hH (zk0 k_A (by decide)) (zEn (zE_k13 k_A) n_A) 5 rfl j hvj hj (by decide) (hno j hj hvj) dX5_findTools_28 ?_
      refine lv_astore_nN (lv' := [(2, .null), (0, .ref x), (1, .int v)]) hx hb dX5_findTools_29 rfl hl (by decide) rfl (fun ls hl => ?_)
      refine lv_aload_nN hx hb dX5_findTools_30 rfl (lv_at hl 0 rfl) ?_
      refine lv_ifnonnullN hx hb dX5_findTools_31 ?_
      exact z_throwS (cls := zIob) (text := "no such kind of tool") (is := 223) (ic := 180) (ik := 176) hx hb hl9 hown (by decide +kernel) (hts (.classLink RX5 176 "java/lang/IndexOutOfBoundsException") (by decide +kernel)) (hts (.initialized "java/lang/IndexOutOfBoundsException") (by decide +kernel)) hA (by decide +kernel) (fun w9 h9 => hts w9 (hat_180 w9 h9)) (by decide +kernel) (by decide +kernel) hH hS (hl.1.trans hml.symm) dX5_findTools_34 dX5_findTools_37 dX5_findTools_38 dX5_findTools_40 dX5_findTools_43 htab (Nat.le_of_ble_eq_true rfl) (Nat.le_of_ble_eq_true rfl) (Nat.le_of_ble_eq_true rfl) (Nat.le_of_ble_eq_true rfl) hlocks (by exact ⟨rfl, rfl⟩) (by decide) (by decide)
    · exact z_throwS (cls := zIob) (text := "no such kind of tool") (is := 223) (ic := 180) (ik := 176) hx hb hl9 hown (by decide +kernel) (hts (.classLink RX5 176 "java/lang/IndexOutOfBoundsException") (by decide +kernel)) (hts (.initialized "java/lang/IndexOutOfBoundsException") (by decide +kernel)) hA (by decide +kernel) (fun w9 h9 => hts w9 (hat_180 w9 h9)) (by decide +kernel) (by decide +kernel) hH hS (hl.1.trans hml.symm) dX5_findTools_13 dX5_findTools_16 dX5_findTools_17 dX5_findTools_19 dX5_findTools_22 htab (Nat.le_of_ble_eq_true rfl) (Nat.le_of_ble_eq_true rfl) (Nat.le_of_ble_eq_true rfl) (Nat.le_of_ble_eq_true rfl) hlocks (by exact ⟨rfl, rfl⟩) (by decide) (by decide)
set_option maxHeartbeats 4000000 in
set_option maxRecDepth 100000 in
theorem c5_findOffence_t (l : Launch) (hl9 : l.stackTraces = false) (D : va_G) (cy : Nat → ClassId) (base : Nat) (w : zW) (pa : Nat) (i : Nat) (A : Nat) (z : Nat) (k_pa : zK w pa = 3) (p207_pa : zP w 207 pa = some A) (k_A : zK w A = 10) (n_A : zN w A = 50) (qz : zQ w A i = some z) (hi : i < 50) : vx_Met l yX5_findOffence wsX5_findOffence ({ frames := 0, cells := 1, slots := 6, locals := 0 }) (zPc D cy base (zH D cy base) [.ref pa, .int (nI i)] w) (zQr base (zH D cy base) (fun (r0 : Nat) (u0 : zW) => r0 = z ∧ u0 = w)) (zXC base (zH D cy base) (fun (E : String) (u0 : zW) => False)) 1 6 (fun q => base ≤ q) := by
  refine vx_ofW (cc := cX5_findOffence) (maxL := 3) (ret := (some (.object "ParoleCards$Offence"))) (by decide) rfl ?_
  intro p e s m args below meth c s₁ B9 hml htab hv
  obtain ⟨rfl, hA, hH⟩ := hv
  have hx := B9.exec
  have hb := B9.bytes
  have hr := B9.returns
  have hts := atoms_spec (ws := wsX5_findOffence) B9.pre
  have hown : s.vm.findClass RX5 = some m.cls := findClass_of_methodNamed B9.named
  have hlocks := B9.notSynchronized
  have hi2 : ∀ w ∈ wsX20, w ∈ wsX5_findOffence := by decide +kernel
  have hS : va_S (fun q : Nat => base ≤ q) s.heap s.heap [] := va_S.rf
  have hl := lv_entry ([.ref pa, .int (nI i)]) (n := 3) (Nat.le_of_ble_eq_true rfl)
  rw [lg_entry_eq]
  generalize (lg_sl ([.ref pa, .int (nI i)]) ++ List.replicate (3 - (lg_sl ([.ref pa, .int (nI i)])).length) Slot.unset).toArray = ls at hl ⊢
  have hl : lv_has ls 3 [(0, .ref pa), (1, .int (nI i))] := hl
  refine lv_iload_n hx hb dX5_findOffence_0 rfl (lv_at hl 1 rfl) ?_
  refine lv_if_lt (tgt := 13) hx hb dX5_findOffence_1 (by decide) (fun c_1 => absurd c_1 (nI_pos (by omega))) (fun c_1 => ?_)
  refine lv_iload_n hx hb dX5_findOffence_4 rfl (lv_at hl 1 rfl) ?_
  refine lv_aload_n hx hb dX5_findOffence_5 rfl (lv_at hl 0 rfl) ?_
  refine z_get (C := RX2) (T := TX2) (N := 14) (ci := 2) (index := 215) (v := .ref A) hx hb hts hi2 hown hA hH (zk0 k_pa (by decide)) (zE_k3 k_pa) rfl 7 (by decide) (hts (.fieldLink RX5 215 "ParoleCards$Person" "offences" "[LParoleCards$Offence;") (by decide +kernel)) (fun _ h9 => h9) (congrArg (fun z => some (va_rf z)) p207_pa) dX5_findOffence_6 ?_
  refine z_alen (v := 50) hx hb hA hH (zk0 k_A (by decide)) (zE_k10 k_A) 2 rfl (congrArg Int32.ofNat n_A) dX5_findOffence_9 ?_
  refine lv_icmp_lt (tgt := 23) hx hb dX5_findOffence_10 (by decide) (fun c_2 => ?_) (fun c_2 => absurd (nI_lt (b := 50) hi (by decide)) c_2)
  refine lv_aload_n hx hb dX5_findOffence_23 rfl (lv_at hl 0 rfl) ?_
  refine z_get (C := RX2) (T := TX2) (N := 14) (ci := 2) (index := 215) (v := .ref A) hx hb hts hi2 hown hA hH (zk0 k_pa (by decide)) (zE_k3 k_pa) rfl 7 (by decide) (hts (.fieldLink RX5 215 "ParoleCards$Person" "offences" "[LParoleCards$Offence;") (by decide +kernel)) (fun _ h9 => h9) (congrArg (fun z => some (va_rf z)) p207_pa) dX5_findOffence_24 ?_
  refine lv_iload_n hx hb dX5_findOffence_27 rfl (lv_at hl 1 rfl) ?_
  refine z_aald (v := (some z)) hx hb hA hH (zk0 k_A (by decide)) (zEn (zE_k10 k_A) n_A) 2 rfl i rfl (by omega) (by decide) qz dX5_findOffence_28 ?_
  refine lv_astore_n (lv' := [(2, .ref z), (0, .ref pa), (1, .int (nI i))]) hx hb dX5_findOffence_29 rfl hl (by decide) rfl (fun ls hl => ?_)
  refine lv_aload_n hx hb dX5_findOffence_30 rfl (lv_at hl 0 rfl) ?_
  refine lv_ifnonnull (tgt := 44) hx hb dX5_findOffence_31 (by decide) ?_
  refine lv_aload_n hx hb dX5_findOffence_44 rfl (lv_at hl 0 rfl) ?_
  refine vx_ret ?_
  exact z_aret hx hb hr hlocks hH hS (by exact ⟨rfl, rfl⟩) (by decide) (by decide) dX5_findOffence_45
set_option maxHeartbeats 4000000 in
set_option maxRecDepth 100000 in
theorem c5_findOffence_f (l : Launch) (hl9 : l.stackTraces = false) (D : va_G) (cy : Nat → ClassId) (base : Nat) (w : zW) (pa : Nat) (v : Int32) (A : Nat) (k_pa : zK w pa = 3) (p207_pa : zP w 207 pa = some A) (k_A : zK w A = 10) (n_A : zN w A = 50) (hno : ∀ i, i < 50 → v = nI i → zQ w A i = none) : vx_Met l yX5_findOffence wsX5_findOffence ({ frames := 6, cells := 1, slots := 6, locals := 90 }) (zPc D cy base (zH D cy base) [.ref pa, .int v] w) (zQr base (zH D cy base) (fun (r0 : Nat) (u0 : zW) => False)) (zXC base (zH D cy base) (fun (E : String) (u0 : zW) => E = zIob ∧ u0 = w)) 1 6 (fun q => base ≤ q) := by
  refine vx_ofW (cc := cX5_findOffence) (maxL := 3) (ret := (some (.object "ParoleCards$Offence"))) (by decide) rfl ?_
  intro p e s m args below meth c s₁ B9 hml htab hv
  obtain ⟨rfl, hA, hH⟩ := hv
  have hx := B9.exec
  have hb := B9.bytes
  have hr := B9.returns
  have hts := atoms_spec (ws := wsX5_findOffence) B9.pre
  have hown : s.vm.findClass RX5 = some m.cls := findClass_of_methodNamed B9.named
  have hlocks := B9.notSynchronized
  have hi2 : ∀ w ∈ wsX20, w ∈ wsX5_findOffence := by decide +kernel
  have hat_180 : ∀ w ∈ (vx_atS RX5 180 zIob zUp).filter goodWord, w ∈ wsX5_findOffence := fun _ h => List.mem_cons_of_mem _ (List.mem_append_right _ h)
  have hS : va_S (fun q : Nat => base ≤ q) s.heap s.heap [] := va_S.rf
  have hl := lv_entry ([.ref pa, .int v]) (n := 3) (Nat.le_of_ble_eq_true rfl)
  rw [lg_entry_eq]
  generalize (lg_sl ([.ref pa, .int v]) ++ List.replicate (3 - (lg_sl ([.ref pa, .int v])).length) Slot.unset).toArray = ls at hl ⊢
  have hl : lv_has ls 3 [(0, .ref pa), (1, .int v)] := hl
  refine lv_iload_n hx hb dX5_findOffence_0 rfl (lv_at hl 1 rfl) ?_
  refine lv_if_lt (tgt := 13) hx hb dX5_findOffence_1 (by decide) (fun c_1 => ?_) (fun c_1 => ?_)
  · exact z_throwS (cls := zIob) (text := "no such offence") (is := 219) (ic := 180) (ik := 176) hx hb hl9 hown (by decide +kernel) (hts (.classLink RX5 176 "java/lang/IndexOutOfBoundsException") (by decide +kernel)) (hts (.initialized "java/lang/IndexOutOfBoundsException") (by decide +kernel)) hA (by decide +kernel) (fun w9 h9 => hts w9 (hat_180 w9 h9)) (by decide +kernel) (by decide +kernel) hH hS (hl.1.trans hml.symm) dX5_findOffence_13 dX5_findOffence_16 dX5_findOffence_17 dX5_findOffence_19 dX5_findOffence_22 htab (Nat.le_of_ble_eq_true rfl) (Nat.le_of_ble_eq_true rfl) (Nat.le_of_ble_eq_true rfl) (Nat.le_of_ble_eq_true rfl) hlocks (by exact ⟨rfl, rfl⟩) (by decide) (by decide)
  · refine lv_iload_n hx hb dX5_findOffence_4 rfl (lv_at hl 1 rfl) ?_
    refine lv_aload_n hx hb dX5_findOffence_5 rfl (lv_at hl 0 rfl) ?_
    refine z_get (C := RX2) (T := TX2) (N := 14) (ci := 2) (index := 215) (v := .ref A) hx hb hts hi2 hown hA hH (zk0 k_pa (by decide)) (zE_k3 k_pa) rfl 7 (by decide) (hts (.fieldLink RX5 215 "ParoleCards$Person" "offences" "[LParoleCards$Offence;") (by decide +kernel)) (fun _ h9 => h9) (congrArg (fun z => some (va_rf z)) p207_pa) dX5_findOffence_6 ?_
    refine z_alen (v := 50) hx hb hA hH (zk0 k_A (by decide)) (zE_k10 k_A) 2 rfl (congrArg Int32.ofNat n_A) dX5_findOffence_9 ?_
    refine lv_icmp_lt (tgt := 23) hx hb dX5_findOffence_10 (by decide) (fun c_2 => ?_) (fun c_2 => ?_)
    · obtain ⟨j, hj, hvj⟩ := nIlt 50 (by decide) c_1 c_2
      refine lv_aload_n hx hb dX5_findOffence_23 rfl (lv_at hl 0 rfl) ?_
      refine z_get (C := RX2) (T := TX2) (N := 14) (ci := 2) (index := 215) (v := .ref A) hx hb hts hi2 hown hA hH (zk0 k_pa (by decide)) (zE_k3 k_pa) rfl 7 (by decide) (hts (.fieldLink RX5 215 "ParoleCards$Person" "offences" "[LParoleCards$Offence;") (by decide +kernel)) (fun _ h9 => h9) (congrArg (fun z => some (va_rf z)) p207_pa) dX5_findOffence_24 ?_
      refine lv_iload_n hx hb dX5_findOffence_27 rfl (lv_at hl 1 rfl) ?_
      refine z_aald (v := none) hx hb hA hH (zk0 k_A (by decide)) (zEn (zE_k10 k_A) n_A) 2 rfl j hvj hj (by decide) (hno j hj hvj) dX5_findOffence_28 ?_
      refine lv_astore_nN (lv' := [(2, .null), (0, .ref pa), (1, .int v)]) hx hb dX5_findOffence_29 rfl hl (by decide) rfl (fun ls hl => ?_)
      refine lv_aload_nN hx hb dX5_findOffence_30 rfl (lv_at hl 0 rfl) ?_
      refine lv_ifnonnullN hx hb dX5_findOffence_31 ?_
      exact z_throwS (cls := zIob) (text := "no such offence") (is := 219) (ic := 180) (ik := 176) hx hb hl9 hown (by decide +kernel) (hts (.classLink RX5 176 "java/lang/IndexOutOfBoundsException") (by decide +kernel)) (hts (.initialized "java/lang/IndexOutOfBoundsException") (by decide +kernel)) hA (by decide +kernel) (fun w9 h9 => hts w9 (hat_180 w9 h9)) (by decide +kernel) (by decide +kernel) hH hS (hl.1.trans hml.symm) dX5_findOffence_34 dX5_findOffence_37 dX5_findOffence_38 dX5_findOffence_40 dX5_findOffence_43 htab (Nat.le_of_ble_eq_true rfl) (Nat.le_of_ble_eq_true rfl) (Nat.le_of_ble_eq_true rfl) (Nat.le_of_ble_eq_true rfl) hlocks (by exact ⟨rfl, rfl⟩) (by decide) (by decide)
    · exact z_throwS (cls := zIob) (text := "no such offence") (is := 219) (ic := 180) (ik := 176) hx hb hl9 hown (by decide +kernel) (hts (.classLink RX5 176 "java/lang/IndexOutOfBoundsException") (by decide +kernel)) (hts (.initialized "java/lang/IndexOutOfBoundsException") (by decide +kernel)) hA (by decide +kernel) (fun w9 h9 => hts w9 (hat_180 w9 h9)) (by decide +kernel) (by decide +kernel) hH hS (hl.1.trans hml.symm) dX5_findOffence_13 dX5_findOffence_16 dX5_findOffence_17 dX5_findOffence_19 dX5_findOffence_22 htab (Nat.le_of_ble_eq_true rfl) (Nat.le_of_ble_eq_true rfl) (Nat.le_of_ble_eq_true rfl) (Nat.le_of_ble_eq_true rfl) hlocks (by exact ⟨rfl, rfl⟩) (by decide) (by decide)
