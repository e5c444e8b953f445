theorem l_mask (v : Int32) : ∃ j, j < 2 ^ 31 ∧ v &&& 2147483647 = nI j := pk_andE v 31 (by decide)
set_option maxHeartbeats 4000000 in
set_option maxRecDepth 100000 in
theorem zl_part (l : Launch) (D : va_G) (cy : Nat → ClassId) (base x : Nat) (r : Nat → Nat) (n : Nat) (B A : mB) (b L : Nat) (xs : Nat → Int32) (hL : L ≤ 260) (k9 : Int32) (hk9 : ∃ k0 : Nat, k0 < 1000 ∧ k9 = nI k0) (N : Nat) (hN : 0 < N) (hN9 : N < 10000) : Met l yL_part wsL_part ({ frames := 1, cells := 0, slots := 0, locals := 20 }) (zPs D cy base (lH D cy base x r n) [.ref b, .int k9, .int (nI N)] (B, A) b L xs) (zQi base (lH D cy base x r n) (fun (r0 : Int32) (u0 : lU) => ∃ j, j < N ∧ r0 = nI j ∧ u0 = (B, A))) 0 0 (fun q => base ≤ q) := by
  refine Met.ofW (cc := cL_part) (maxL := 4) (ret := (some .int)) (by decide) rfl ?_
  intro p e s m args below meth c s₁ B9 hml hv
  obtain ⟨⟨rfl, hA, hH⟩, hX, hbl, hbb⟩ := hv
  have hx := B9.exec
  have hb := B9.bytes
  have hr := B9.returns
  have hts := atoms_spec (ws := wsL_part) B9.pre
  have hown : s.vm.findClass RL = some m.cls := findClass_of_methodNamed B9.named
  have hlocks := B9.notSynchronized
  have hS : va_S (fun q : Nat => base ≤ q) s.heap s.heap [] := va_S.rf
  have hl := lv_entry ([.ref b, .int k9, .int (nI N)]) (n := 4) (Nat.le_of_ble_eq_true rfl)
  rw [lg_entry_eq]
  generalize (lg_sl ([.ref b, .int k9, .int (nI N)]) ++ List.replicate (4 - (lg_sl ([.ref b, .int k9, .int (nI N)])).length) Slot.unset).toArray = ls at hl ⊢
  have hl : lv_has ls 4 [(0, .ref b), (1, .int k9), (2, .int (nI N))] := hl
  have hbA : ¬ (fun q : Nat => base ≤ q) b := Nat.not_le.mpr hbb
  obtain ⟨k0, hk0, rfl⟩ : ∃ k0 : Nat, k0 < 1000 ∧ k9 = nI k0 := hk9
  refine lv_iload_n hx hb dL_part_0 rfl (lv_at hl 1 rfl) ?_
  refine lv_aload_n hx hb dL_part_1 rfl (lv_at hl 0 rfl) ?_
  refine va_slen hx hb hX hbl hbA hS dL_part_2 ?_
  refine lv_icmp_ge (tgt := 12) hx hb dL_part_3 (by decide) (fun c1 => ?_) (fun c1 => ?_)
  · refine lv_sipush (v := 449) hx hb dL_part_12 (by decide) ?_
    refine lv_iload_n hx hb dL_part_15 rfl (lv_at hl 1 rfl) ?_
    refine lv_imul hx hb dL_part_16 ?_
    refine lv_sipush (v := 313) hx hb dL_part_17 (by decide) ?_
    refine lv_iload_n hx hb dL_part_20 rfl (lv_at hl 1 rfl) ?_
    refine lv_imul hx hb dL_part_21 ?_
    refine lv_iload_n hx hb dL_part_22 rfl (lv_at hl 1 rfl) ?_
    refine lv_imul hx hb dL_part_23 ?_
    refine lv_iadd hx hb dL_part_24 ?_
    refine lv_topi (fun v9 hv9 => ?_)
    refine lv_istore_n (lv' := [(3, .int v9), (0, .ref b), (1, .int (nI k0)), (2, .int (nI N))]) hx hb dL_part_25 rfl hl (by decide) rfl (fun ls hl => ?_)
    refine lv_iload_n hx hb dL_part_26 rfl (lv_at hl 0 rfl) ?_
    refine lv_ldc (v := 2147483647) hx hb hown (hts (.constant RL 7 (2147483647)) (by decide +kernel)) dL_part_27 ?_
    refine lv_iand hx hb dL_part_29 ?_
    obtain ⟨j9, hj9, ej9⟩ := l_mask v9
    refine lv_eqi ej9 ?_
    refine lv_iload_n hx hb dL_part_30 rfl (lv_at hl 3 rfl) ?_
    refine lv_irem hx hb dL_part_31 (nI_ne0 hN (by omega)) ?_
    refine lv_eqi (pk_rem (a := j9) (d := N) hj9 hN (by omega)) ?_
    exact z_iret hx hb hr hlocks hH hS ⟨j9 % N, Nat.mod_lt _ hN, rfl, rfl⟩ (by omega) (by omega) dL_part_32
  · have hkL : k0 < L := by
      rcases Nat.lt_or_ge k0 L with q | q
      · exact q
      · exact absurd ((nI_leI (a := L) (b := k0) (by omega) (by omega)).mpr q) c1
    refine lv_aload_n hx hb dL_part_6 rfl (lv_at hl 0 rfl) ?_
    refine lv_iload_n hx hb dL_part_7 rfl (lv_at hl 1 rfl) ?_
    refine va_sld hx hb hX hbl hbA hS (vp_in_nI hkL (by omega)) dL_part_8 ?_
    refine lv_goto (tgt := 25) hx hb dL_part_9 (by decide) ?_
    refine lv_topi (fun v9 hv9 => ?_)
    refine lv_istore_n (lv' := [(3, .int v9), (0, .ref b), (1, .int (nI k0)), (2, .int (nI N))]) hx hb dL_part_25 rfl hl (by decide) rfl (fun ls hl => ?_)
    refine lv_iload_n hx hb dL_part_26 rfl (lv_at hl 0 rfl) ?_
    refine lv_ldc (v := 2147483647) hx hb hown (hts (.constant RL 7 (2147483647)) (by decide +kernel)) dL_part_27 ?_
    refine lv_iand hx hb dL_part_29 ?_
    obtain ⟨j9, hj9, ej9⟩ := l_mask v9
    refine lv_eqi ej9 ?_
    refine lv_iload_n hx hb dL_part_30 rfl (lv_at hl 3 rfl) ?_
    refine lv_irem hx hb dL_part_31 (nI_ne0 hN (by omega)) ?_
    refine lv_eqi (pk_rem (a := j9) (d := N) hj9 hN (by omega)) ?_
    exact z_iret hx hb hr hlocks hH hS ⟨j9 % N, Nat.mod_lt _ hN, rfl, rfl⟩ (by omega) (by omega) dL_part_32
def dF (R : Nat → Int32) (i : Nat) : Int32 := if R (10 * i + 4) = 1 then R (10 * i + 5) else R (10 * i) + R (10 * i + 1) - (if R (10 * i + 1) / 4 < R (10 * i + 6) / 5 + R (10 * i + 7) then R (10 * i + 1) / 4 else R (10 * i + 6) / 5 + R (10 * i + 7)) + R (10 * i + 8)
set_option maxHeartbeats 8000000 in
set_option maxRecDepth 100000 in
theorem zl_due (l : Launch) (hl9 : l.stackTraces = false) (D : va_G) (cy : Nat → ClassId) (base x : Nat) (r : Nat → Nat) (n : Nat) (B A : mB) (hn : 1 ≤ n) (i : Nat) (hi : i < 6) : Met l yL_due wsL_due ({ frames := 0, cells := 0, slots := 0, locals := 0 }) (zPc D cy base (lH D cy base x r n) [.ref (r 0), .int (nI i)] (B, A)) (zQi base (lH D cy base x r n) (fun (r0 : Int32) (u0 : lU) => r0 = dF (A 0) i ∧ u0 = (B, A))) 0 0 (fun q => base ≤ q) := by
  refine Met.ofW (cc := cL_due) (maxL := 5) (ret := (some .int)) (by decide) rfl ?_
  intro p e s m args below meth c s₁ B9 hml hv
  obtain ⟨rfl, hA, hH⟩ := hv
  have hx := B9.exec
  have hb := B9.bytes
  have hr := B9.returns
  have hts := atoms_spec (ws := wsL_due) B9.pre
  have hown : s.vm.findClass RL = some m.cls := findClass_of_methodNamed B9.named
  have hlocks := B9.notSynchronized
  have hS : va_S (fun q : Nat => base ≤ q) s.heap s.heap [] := va_S.rf
  have hl := lv_entry ([.ref (r 0), .int (nI i)]) (n := 5) (Nat.le_of_ble_eq_true rfl)
  rw [lg_entry_eq]
  generalize (lg_sl ([.ref (r 0), .int (nI i)]) ++ List.replicate (5 - (lg_sl ([.ref (r 0), .int (nI i)])).length) Slot.unset).toArray = ls at hl ⊢
  have hl : lv_has ls 5 [(0, .ref (r 0)), (1, .int (nI i))] := hl
  refine lv_bipush (v := 10) hx hb dL_due_0 (by decide) ?_
  refine lv_iload_n hx hb dL_due_2 rfl (lv_at hl 1 rfl) ?_
  refine lv_imul hx hb dL_due_3 ?_
  refine lv_eqi (pk_mul 10 i) ?_
  refine lv_istore_n (lv' := [(2, .int (nI (10 * i))), (0, .ref (r 0)), (1, .int (nI i))]) hx hb dL_due_4 rfl hl (by decide) rfl (fun ls hl => ?_)
  refine lv_aload_n hx hb dL_due_5 rfl (lv_at hl 1 rfl) ?_
  refine lv_iload_n hx hb dL_due_6 rfl (lv_at hl 0 rfl) ?_
  refine lv_bipush (v := 6) hx hb dL_due_7 (by decide) ?_
  refine lv_iadd hx hb dL_due_9 ?_
  refine lv_eqi (nI_add (10 * i) 6) ?_
  refine l_iald (f := 0) (v := (A 0 (10 * i + 6))) (by omega) hx hb hA hH (10 * i + 6) rfl (by rw [show lLen 0 = 60 from rfl]; omega) rfl dL_due_10 ?_
  refine lv_iconst (v := 5) hx hb dL_due_11 (by decide) ?_
  refine lv_idiv hx hb dL_due_12 (by decide) ?_
  refine lv_aload_n hx hb dL_due_13 rfl (lv_at hl 1 rfl) ?_
  refine lv_iload_n hx hb dL_due_14 rfl (lv_at hl 0 rfl) ?_
  refine lv_bipush (v := 7) hx hb dL_due_15 (by decide) ?_
  refine lv_iadd hx hb dL_due_17 ?_
  refine lv_eqi (nI_add (10 * i) 7) ?_
  refine l_iald (f := 0) (v := (A 0 (10 * i + 7))) (by omega) hx hb hA hH (10 * i + 7) rfl (by rw [show lLen 0 = 60 from rfl]; omega) rfl dL_due_18 ?_
  refine lv_iadd hx hb dL_due_19 ?_
  refine lv_istore_n (lv' := [(3, .int (((A 0 (10 * i + 6)) / 5) + (A 0 (10 * i + 7)))), (2, .int (nI (10 * i))), (0, .ref (r 0)), (1, .int (nI i))]) hx hb dL_due_20 rfl hl (by decide) rfl (fun ls hl => ?_)
  refine lv_aload_n hx hb dL_due_21 rfl (lv_at hl 2 rfl) ?_
  refine lv_iload_n hx hb dL_due_22 rfl (lv_at hl 1 rfl) ?_
  refine lv_iconst (v := 1) hx hb dL_due_23 (by decide) ?_
  refine lv_iadd hx hb dL_due_24 ?_
  refine lv_eqi (nI_add (10 * i) 1) ?_
  refine l_iald (f := 0) (v := (A 0 (10 * i + 1))) (by omega) hx hb hA hH (10 * i + 1) rfl (by rw [show lLen 0 = 60 from rfl]; omega) rfl dL_due_25 ?_
  refine lv_iconst (v := 4) hx hb dL_due_26 (by decide) ?_
  refine lv_idiv hx hb dL_due_27 (by decide) ?_
  refine lv_istore (lv' := [(4, .int ((A 0 (10 * i + 1)) / 4)), (3, .int (((A 0 (10 * i + 6)) / 5) + (A 0 (10 * i + 7)))), (2, .int (nI (10 * i))), (0, .ref (r 0)), (1, .int (nI i))]) hx hb dL_due_28 hl (by decide) rfl (fun ls hl => ?_)
  refine lv_aload_n hx hb dL_due_30 rfl (lv_at hl 3 rfl) ?_
  refine lv_iload_n hx hb dL_due_31 rfl (lv_at hl 2 rfl) ?_
  refine lv_iconst (v := 4) hx hb dL_due_32 (by decide) ?_
  refine lv_iadd hx hb dL_due_33 ?_
  refine lv_eqi (nI_add (10 * i) 4) ?_
  refine l_iald (f := 0) (v := (A 0 (10 * i + 4))) (by omega) hx hb hA hH (10 * i + 4) rfl (by rw [show lLen 0 = 60 from rfl]; omega) rfl dL_due_34 ?_
  refine lv_iconst (v := 1) hx hb dL_due_35 (by decide) ?_
  refine lv_icmp_ne (tgt := 47) hx hb dL_due_36 (by decide) (fun c_1 => ?_) (fun c_1 => ?_)
  · refine lv_aload_n hx hb dL_due_47 rfl (lv_at hl 3 rfl) ?_
    refine lv_iload_n hx hb dL_due_48 rfl (lv_at hl 2 rfl) ?_
    refine l_iald (f := 0) (v := (A 0 (10 * i))) (by omega) hx hb hA hH (10 * i) rfl (by rw [show lLen 0 = 60 from rfl]; omega) rfl dL_due_49 ?_
    refine lv_aload_n hx hb dL_due_50 rfl (lv_at hl 3 rfl) ?_
    refine lv_iload_n hx hb dL_due_51 rfl (lv_at hl 2 rfl) ?_
    refine lv_iconst (v := 1) hx hb dL_due_52 (by decide) ?_
    refine lv_iadd hx hb dL_due_53 ?_
    refine lv_eqi (nI_add (10 * i) 1) ?_
    refine l_iald (f := 0) (v := (A 0 (10 * i + 1))) (by omega) hx hb hA hH (10 * i + 1) rfl (by rw [show lLen 0 = 60 from rfl]; omega) rfl dL_due_54 ?_
    refine lv_iadd hx hb dL_due_55 ?_
    refine lv_iload_n hx hb dL_due_56 rfl (lv_at hl 1 rfl) ?_
    refine lv_iload hx hb dL_due_57 (lv_at hl 0 rfl) ?_
    refine lv_icmp_le (tgt := 67) hx hb dL_due_59 (by decide) (fun c_2 => ?_) (fun c_2 => ?_)
    · refine lv_iload_n hx hb dL_due_67 rfl (lv_at hl 1 rfl) ?_
      refine lv_isub hx hb dL_due_68 ?_
      refine lv_aload_n hx hb dL_due_69 rfl (lv_at hl 3 rfl) ?_
      refine lv_iload_n hx hb dL_due_70 rfl (lv_at hl 2 rfl) ?_
      refine lv_bipush (v := 8) hx hb dL_due_71 (by decide) ?_
      refine lv_iadd hx hb dL_due_73 ?_
      refine lv_eqi (nI_add (10 * i) 8) ?_
      refine l_iald (f := 0) (v := (A 0 (10 * i + 8))) (by omega) hx hb hA hH (10 * i + 8) rfl (by rw [show lLen 0 = 60 from rfl]; omega) rfl dL_due_74 ?_
      refine lv_iadd hx hb dL_due_75 ?_
      exact z_iret hx hb hr hlocks hH hS (⟨((if_neg c_1).trans (by rw [if_neg (Int32.not_lt.mpr c_2)])).symm, rfl⟩) (by omega) (by omega) dL_due_76
    · refine lv_iload hx hb dL_due_62 (lv_at hl 0 rfl) ?_
      refine lv_goto (tgt := 68) hx hb dL_due_64 (by decide) ?_
      refine lv_isub hx hb dL_due_68 ?_
      refine lv_aload_n hx hb dL_due_69 rfl (lv_at hl 3 rfl) ?_
      refine lv_iload_n hx hb dL_due_70 rfl (lv_at hl 2 rfl) ?_
      refine lv_bipush (v := 8) hx hb dL_due_71 (by decide) ?_
      refine lv_iadd hx hb dL_due_73 ?_
      refine lv_eqi (nI_add (10 * i) 8) ?_
      refine l_iald (f := 0) (v := (A 0 (10 * i + 8))) (by omega) hx hb hA hH (10 * i + 8) rfl (by rw [show lLen 0 = 60 from rfl]; omega) rfl dL_due_74 ?_
      refine lv_iadd hx hb dL_due_75 ?_
      exact z_iret hx hb hr hlocks hH hS (⟨((if_neg c_1).trans (by rw [if_pos (Int32.not_le.mp c_2)])).symm, rfl⟩) (by omega) (by omega) dL_due_76
  · refine lv_aload_n hx hb dL_due_39 rfl (lv_at hl 3 rfl) ?_
    refine lv_iload_n hx hb dL_due_40 rfl (lv_at hl 2 rfl) ?_
    refine lv_iconst (v := 5) hx hb dL_due_41 (by decide) ?_
    refine lv_iadd hx hb dL_due_42 ?_
    refine lv_eqi (nI_add (10 * i) 5) ?_
    refine l_iald (f := 0) (v := (A 0 (10 * i + 5))) (by omega) hx hb hA hH (10 * i + 5) rfl (by rw [show lLen 0 = 60 from rfl]; omega) rfl dL_due_43 ?_
    refine lv_goto (tgt := 76) hx hb dL_due_44 (by decide) ?_
    exact z_iret hx hb hr hlocks hH hS (⟨(if_pos c_1).symm, rfl⟩) (by omega) (by omega) dL_due_76
set_option maxHeartbeats 8000000 in
set_option maxRecDepth 100000 in
theorem zl_out (l : Launch) (hl9 : l.stackTraces = false) (D : va_G) (cy : Nat → ClassId) (base x : Nat) (r : Nat → Nat) (n : Nat) (B A : mB) (hn : 5 ≤ n) (hE : JE B A) (kd : Int32) : Met l yL_out wsL_out ({ frames := 0, cells := 0, slots := 0, locals := 0 }) (zPc D cy base (lH D cy base x r n) [.ref (r 0), .ref (r 1), .ref (r 4), .int kd] (B, A)) (zQi base (lH D cy base x r n) (fun (r0 : Int32) (u0 : lU) => r0 = sOut B kd (nP B) ∧ u0 = (B, A))) 0 0 (fun q => base ≤ q) := by
  refine Met.ofW (cc := cL_out) (maxL := 6) (ret := (some .int)) (by decide) rfl ?_
  intro p e s m args below meth c s₁ B9 hml hv
  obtain ⟨rfl, hA, hH⟩ := hv
  have hx := B9.exec
  have hb := B9.bytes
  have hr := B9.returns
  have hts := atoms_spec (ws := wsL_out) B9.pre
  have hown : s.vm.findClass RL = some m.cls := findClass_of_methodNamed B9.named
  have hlocks := B9.notSynchronized
  have hS : va_S (fun q : Nat => base ≤ q) s.heap s.heap [] := va_S.rf
  have hl := lv_entry ([.ref (r 0), .ref (r 1), .ref (r 4), .int kd]) (n := 6) (Nat.le_of_ble_eq_true rfl)
  rw [lg_entry_eq]
  generalize (lg_sl ([.ref (r 0), .ref (r 1), .ref (r 4), .int kd]) ++ List.replicate (6 - (lg_sl ([.ref (r 0), .ref (r 1), .ref (r 4), .int kd])).length) Slot.unset).toArray = ls at hl ⊢
  have hl : lv_has ls 6 [(0, .ref (r 0)), (1, .ref (r 1)), (2, .ref (r 4)), (3, .int kd)] := hl
  have hJ := lH_J hH
  have hn6 : nP B ≤ 6 := hE.1.1
  refine lv_iconst (v := 0) hx hb dL_out_0 (by decide) ?_
  refine lv_istore (lv' := [(4, .int 0), (0, .ref (r 0)), (1, .ref (r 1)), (2, .ref (r 4)), (3, .int kd)]) hx hb dL_out_1 hl (by decide) rfl (fun ls hl => ?_)
  refine lv_iconst (v := 0) hx hb dL_out_3 (by decide) ?_
  refine lv_istore (lv' := [(5, .int 0), (4, .int 0), (0, .ref (r 0)), (1, .ref (r 1)), (2, .ref (r 4)), (3, .int kd)]) hx hb dL_out_4 hl (by decide) rfl (fun ls hl => ?_)
  have hl_1 : lv_has ls 6 [(0, .ref (r 0)), (1, .ref (r 1)), (2, .ref (r 4)), (3, .int kd), (4, .int 0), (5, .int 0)] := lv_sub hl [2, 3, 4, 5, 1, 0] rfl
  have hl_1 : lv_has ls 6 [(0, .ref (r 0)), (1, .ref (r 1)), (2, .ref (r 4)), (3, .int kd), (4, .int (sOut B kd 0)), (5, .int (nI 0))] := hl_1
  refine z_forc (S := lU) (nL := 6) (nP B) (fun k u => u = (B, A)) (fun k _ => [(0, .ref (r 0)), (1, .ref (r 1)), (2, .ref (r 4)), (3, .int kd), (4, .int (sOut B kd k)), (5, .int (nI k))]) _ 0 _ 0 (rfl) hH hS hl_1 (Nat.le_refl _) (Nat.le_refl _) ?_ ?_
  · intro u H locs ls hI hH hS hl
    subst hI
    refine lv_iload hx hb dL_out_6 (lv_at hl 5 rfl) ?_
    refine lv_aload_n hx hb dL_out_8 rfl (lv_at hl 2 rfl) ?_
    refine lv_iconst (v := 1) hx hb dL_out_9 (by decide) ?_
    refine l_iald (f := 4) (v := (nI (nP B))) (by omega) hx hb hA hH 1 rfl (by rw [show lLen 4 = 3 from rfl]; omega) hE.1.2.2.1 dL_out_10 ?_
    refine lv_icmp_ge (tgt := 61) hx hb dL_out_11 (by decide) (fun _ => ?_) (fun c_2 => absurd ((nI_leI (a := nP B) (b := nP B) (by omega) (by omega)).mpr (by omega)) c_2)
    refine lv_iload hx hb dL_out_61 (lv_at hl 4 rfl) ?_
    exact z_iret hx hb hr hlocks hH hS (⟨rfl, rfl⟩) (by omega) (by omega) dL_out_63
  · intro k hk ihk u H locs ls hI hH hS hl
    subst hI
    refine lv_iload hx hb dL_out_6 (lv_at hl 5 rfl) ?_
    refine lv_aload_n hx hb dL_out_8 rfl (lv_at hl 2 rfl) ?_
    refine lv_iconst (v := 1) hx hb dL_out_9 (by decide) ?_
    refine l_iald (f := 4) (v := (nI (nP B))) (by omega) hx hb hA hH 1 rfl (by rw [show lLen 4 = 3 from rfl]; omega) hE.1.2.2.1 dL_out_10 ?_
    refine lv_icmp_ge (tgt := 61) hx hb dL_out_11 (by decide) (fun c_3 => absurd ((nI_leI (a := nP B) (b := k) (by omega) (by omega)).mp c_3) (by omega)) (fun _ => ?_)
    rcases (hJ.1.2.2.1 k hk).2.2.2.2 with h11 | h11
    · refine lv_iload hx hb dL_out_14 (lv_at hl 4 rfl) ?_
      refine lv_aload_n hx hb dL_out_16 rfl (lv_at hl 0 rfl) ?_
      refine lv_bipush (v := 10) hx hb dL_out_17 (by decide) ?_
      refine lv_iload hx hb dL_out_19 (lv_at hl 5 rfl) ?_
      refine lv_imul hx hb dL_out_21 ?_
      refine lv_eqi (pk_mul 10 k) ?_
      refine lv_iconst (v := 3) hx hb dL_out_22 (by decide) ?_
      refine lv_iadd hx hb dL_out_23 ?_
      refine lv_eqi (nI_add (10 * k) 3) ?_
      refine l_iald (f := 0) (v := (B 11 k)) (by omega) hx hb hA hH (10 * k + 3) rfl (by rw [show lLen 0 = 60 from rfl]; omega) (hE.2.1 k hk).2.2.2 dL_out_24 ?_
      refine lv_if_lt (tgt := 51) hx hb dL_out_25 (by decide) (fun _ => ?_) (fun c_4 => absurd (show B 11 k < 0 by rw [h11]; decide) c_4)
      refine lv_iconst (v := 0) hx hb dL_out_51 (by decide) ?_
      refine lv_iadd hx hb dL_out_52 ?_
      refine lv_istore (lv' := [(4, .int ((sOut B kd k) + 0)), (0, .ref (r 0)), (1, .ref (r 1)), (2, .ref (r 4)), (3, .int kd), (5, .int (nI k))]) hx hb dL_out_53 hl (by decide) rfl (fun ls hl => ?_)
      refine lv_iinc (v := ((nI k) + 1)) (lv' := [(5, .int ((nI k) + 1)), (4, .int ((sOut B kd k) + 0)), (0, .ref (r 0)), (1, .ref (r 1)), (2, .ref (r 4)), (3, .int kd)]) hx hb dL_out_55 hl (k := 5) rfl rfl (by decide) rfl (fun ls hl => ?_)
      rw [show (((nI k) + 1) : Int32) = (nI (k + 1)) from nI_add k 1] at hl
      refine lv_goto (tgt := 6) hx hb dL_out_58 (by decide) ?_
      have hl_5 : lv_has ls 6 [(0, .ref (r 0)), (1, .ref (r 1)), (2, .ref (r 4)), (3, .int kd), (4, .int ((sOut B kd k) + 0)), (5, .int (nI (k + 1)))] := lv_sub hl [2, 3, 4, 5, 1, 0] rfl
      rw [show (((sOut B kd k) + 0) : Int32) = (sOut B kd (k + 1)) from ((show sOut B kd k + (if B 11 k = -1 then 0 else if B 24 (ox B k) = kd then 1 else 0) = sOut B kd k + 0 by rw [if_pos h11])).symm] at hl_5
      have hl_5 : lv_has ls 6 [(0, .ref (r 0)), (1, .ref (r 1)), (2, .ref (r 4)), (3, .int kd), (4, .int (sOut B kd (k + 1))), (5, .int (nI (k + 1)))] := hl_5
      exact ihk _ _ _ _ _ _ (rfl) hH hS hl_5 (by omega) (by omega)
    · obtain ⟨h11, hox⟩ := h11
      have hnO : nO B ≤ 8 := hJ.1.2.1.1
      have h11n : ¬ B 11 k = -1 := fun z => nI_neg (a := ox B k) (by omega) (z.symm.trans h11)
      obtain ⟨j9, hj9⟩ : ∃ j9, j9 = ox B k := ⟨_, rfl⟩
      rw [← hj9] at h11 hox
      refine lv_iload hx hb dL_out_14 (lv_at hl 4 rfl) ?_
      refine lv_aload_n hx hb dL_out_16 rfl (lv_at hl 0 rfl) ?_
      refine lv_bipush (v := 10) hx hb dL_out_17 (by decide) ?_
      refine lv_iload hx hb dL_out_19 (lv_at hl 5 rfl) ?_
      refine lv_imul hx hb dL_out_21 ?_
      refine lv_eqi (pk_mul 10 k) ?_
      refine lv_iconst (v := 3) hx hb dL_out_22 (by decide) ?_
      refine lv_iadd hx hb dL_out_23 ?_
      refine lv_eqi (nI_add (10 * k) 3) ?_
      refine l_iald (f := 0) (v := (B 11 k)) (by omega) hx hb hA hH (10 * k + 3) rfl (by rw [show lLen 0 = 60 from rfl]; omega) (hE.2.1 k hk).2.2.2 dL_out_24 ?_
      refine lv_if_lt (tgt := 51) hx hb dL_out_25 (by decide) (fun c_6 => absurd c_6 (show ¬ B 11 k < 0 by rw [h11]; exact nI_pos (by omega))) (fun _ => ?_)
      refine lv_aload_n hx hb dL_out_28 rfl (lv_at hl 1 rfl) ?_
      refine lv_iconst (v := 4) hx hb dL_out_29 (by decide) ?_
      refine lv_aload_n hx hb dL_out_30 rfl (lv_at hl 0 rfl) ?_
      refine lv_bipush (v := 10) hx hb dL_out_31 (by decide) ?_
      refine lv_iload hx hb dL_out_33 (lv_at hl 5 rfl) ?_
      refine lv_imul hx hb dL_out_35 ?_
      refine lv_eqi (pk_mul 10 k) ?_
      refine lv_iconst (v := 3) hx hb dL_out_36 (by decide) ?_
      refine lv_iadd hx hb dL_out_37 ?_
      refine lv_eqi (nI_add (10 * k) 3) ?_
      refine l_iald (f := 0) (v := (B 11 k)) (by omega) hx hb hA hH (10 * k + 3) rfl (by rw [show lLen 0 = 60 from rfl]; omega) (hE.2.1 k hk).2.2.2 dL_out_38 ?_
      refine lv_eqi h11 ?_
      refine lv_imul hx hb dL_out_39 ?_
      refine lv_eqi (pk_mul 4 j9) ?_
      refine lv_iconst (v := 1) hx hb dL_out_40 (by decide) ?_
      refine lv_iadd hx hb dL_out_41 ?_
      refine lv_eqi (nI_add (4 * j9) 1) ?_
      refine l_iald (f := 1) (v := (B 24 j9)) (by omega) hx hb hA hH (4 * j9 + 1) rfl (by rw [show lLen 1 = 32 from rfl]; omega) (hE.2.2.2.2.1 j9 hox).2.1 dL_out_42 ?_
      refine lv_iload_n hx hb dL_out_43 rfl (lv_at hl 3 rfl) ?_
      refine lv_icmp_ne (tgt := 51) hx hb dL_out_44 (by decide) (fun c_7 => ?_) (fun c_7 => ?_)
      · refine lv_iconst (v := 0) hx hb dL_out_51 (by decide) ?_
        refine lv_iadd hx hb dL_out_52 ?_
        refine lv_istore (lv' := [(4, .int ((sOut B kd k) + 0)), (0, .ref (r 0)), (1, .ref (r 1)), (2, .ref (r 4)), (3, .int kd), (5, .int (nI k))]) hx hb dL_out_53 hl (by decide) rfl (fun ls hl => ?_)
        refine lv_iinc (v := ((nI k) + 1)) (lv' := [(5, .int ((nI k) + 1)), (4, .int ((sOut B kd k) + 0)), (0, .ref (r 0)), (1, .ref (r 1)), (2, .ref (r 4)), (3, .int kd)]) hx hb dL_out_55 hl (k := 5) rfl rfl (by decide) rfl (fun ls hl => ?_)
        rw [show (((nI k) + 1) : Int32) = (nI (k + 1)) from nI_add k 1] at hl
        refine lv_goto (tgt := 6) hx hb dL_out_58 (by decide) ?_
        have hl_8 : lv_has ls 6 [(0, .ref (r 0)), (1, .ref (r 1)), (2, .ref (r 4)), (3, .int kd), (4, .int ((sOut B kd k) + 0)), (5, .int (nI (k + 1)))] := lv_sub hl [2, 3, 4, 5, 1, 0] rfl
        rw [show (((sOut B kd k) + 0) : Int32) = (sOut B kd (k + 1)) from ((show sOut B kd k + (if B 11 k = -1 then 0 else if B 24 (ox B k) = kd then 1 else 0) = sOut B kd k + 0 by rw [if_neg h11n, ← hj9, if_neg c_7])).symm] at hl_8
        have hl_8 : lv_has ls 6 [(0, .ref (r 0)), (1, .ref (r 1)), (2, .ref (r 4)), (3, .int kd), (4, .int (sOut B kd (k + 1))), (5, .int (nI (k + 1)))] := hl_8
        exact ihk _ _ _ _ _ _ (rfl) hH hS hl_8 (by omega) (by omega)
      · refine lv_iconst (v := 1) hx hb dL_out_47 (by decide) ?_
        refine lv_goto (tgt := 52) hx hb dL_out_48 (by decide) ?_
        refine lv_iadd hx hb dL_out_52 ?_
        refine lv_istore (lv' := [(4, .int ((sOut B kd k) + 1)), (0, .ref (r 0)), (1, .ref (r 1)), (2, .ref (r 4)), (3, .int kd), (5, .int (nI k))]) hx hb dL_out_53 hl (by decide) rfl (fun ls hl => ?_)
        refine lv_iinc (v := ((nI k) + 1)) (lv' := [(5, .int ((nI k) + 1)), (4, .int ((sOut B kd k) + 1)), (0, .ref (r 0)), (1, .ref (r 1)), (2, .ref (r 4)), (3, .int kd)]) hx hb dL_out_55 hl (k := 5) rfl rfl (by decide) rfl (fun ls hl => ?_)
        rw [show (((nI k) + 1) : Int32) = (nI (k + 1)) from nI_add k 1] at hl
        refine lv_goto (tgt := 6) hx hb dL_out_58 (by decide) ?_
        have hl_9 : lv_has ls 6 [(0, .ref (r 0)), (1, .ref (r 1)), (2, .ref (r 4)), (3, .int kd), (4, .int ((sOut B kd k) + 1)), (5, .int (nI (k + 1)))] := lv_sub hl [2, 3, 4, 5, 1, 0] rfl
        rw [show (((sOut B kd k) + 1) : Int32) = (sOut B kd (k + 1)) from ((show sOut B kd k + (if B 11 k = -1 then 0 else if B 24 (ox B k) = kd then 1 else 0) = sOut B kd k + 1 by rw [if_neg h11n, ← hj9, if_pos c_7])).symm] at hl_9
        have hl_9 : lv_has ls 6 [(0, .ref (r 0)), (1, .ref (r 1)), (2, .ref (r 4)), (3, .int kd), (4, .int (sOut B kd (k + 1))), (5, .int (nI (k + 1)))] := hl_9
        exact ihk _ _ _ _ _ _ (rfl) hH hS hl_9 (by omega) (by omega)
