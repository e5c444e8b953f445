set_option maxHeartbeats 4000000 in
set_option maxRecDepth 100000 in
theorem zL_admit (l : Launch) (hl9 : l.stackTraces = false) (D : va_G) (cy : Nat → ClassId) (base : Nat) (w : zW) (x : Nat) (o9 : Nat) (B : mB) (d : Int32) (k : Int32) (k_o : zK w o9 = 14) (n_o : zN w o9 = 1) (hRep : Rep w x B) (hJ : mJ B) : vx_Met l yL_admit wsL_admit ({ frames := 8, cells := 8, slots := 100, locals := 135 }) (zPc D cy base (zH D cy base) [.ref x, .int d, .int k, .ref o9] w) (zQi base (zH D cy base) (fun (r0 : Int32) (u0 : zW) => ((cd_admit B d k) = 0 ∧ r0 = 0 ∧ Rep u0 x (up_admit B d k) ∧ gFr w u0 ∧ zJ u0 o9 0 = (an_admit B).toInt64) ∨ (¬ (cd_admit B d k) = 0 ∧ r0 = (cd_admit B d k) ∧ u0 = w))) (zXC base (zH D cy base) (fun (_ : String) (_ : zW) => False)) 8 100 (fun q => base ≤ q) := by
  obtain ⟨ad, hR⟩ := hRep
  obtain ⟨hinv, hinv2, hinv3⟩ := hJ
  refine vx_ofWH (cc := cL_admit) (maxL := 5) (ret := (some .int)) (hh := [(0, 10, 13, 13), (0, 10, 17, 15)]) (by decide) rfl ?_
  intro p e s m args below meth c s₁ B9 hml hv
  obtain ⟨rfl, hA, hH⟩ := hv
  have hx := B9.exec
  have hb := B9.bytes
  have hr := B9.returns
  have hts := atoms_spec (ws := wsL_admit) B9.pre
  have hown : s.vm.findClass RL = some m.cls := findClass_of_methodNamed B9.named
  have hlocks := B9.notSynchronized
  have htb : c.exceptionTable.toList = [⟨0, 10, 13, 13⟩, ⟨0, 10, 17, 15⟩] := vx_table (x := yL_admit) B9 (hts (.codeWith yL_admit cL_admit 5 (some .int) [(0, 10, 13, 13), (0, 10, 17, 15)]) (by decide +kernel))
  have hS : va_S (fun q : Nat => base ≤ q) s.heap s.heap [] := va_S.rf
  have hl := lv_entry ([.ref x, .int d, .int k, .ref o9]) (n := 5) (Nat.le_of_ble_eq_true rfl)
  rw [lg_entry_eq]
  generalize (lg_sl ([.ref x, .int d, .int k, .ref o9]) ++ List.replicate (5 - (lg_sl ([.ref x, .int d, .int k, .ref o9])).length) Slot.unset).toArray = ls at hl ⊢
  have hl : lv_has ls 5 [(0, .ref x), (1, .int d), (2, .int k), (3, .ref o9)] := hl
  have k_x := hR.1.1.1
  refine lv_aload_n hx hb dL_admit_0 rfl (lv_at hl 3 rfl) ?_
  refine lv_iconst (v := 0) hx hb dL_admit_1 (by decide) ?_
  refine lv_aload_n hx hb dL_admit_2 rfl (lv_at hl 0 rfl) ?_
  refine lv_iload_n hx hb dL_admit_3 rfl (lv_at hl 1 rfl) ?_
  refine lv_iload_n hx hb dL_admit_4 rfl (lv_at hl 2 rfl) ?_
  refine z_xcalli (vx_runV (As := [.int d, .int k]) (rest := [.int 0, .ref o9]) ⟨hx, hb, hml, hown, hts⟩ (c5_admit l hl9 D cy base w x ad B d k hR hinv hinv2 hinv3) (cwV 2 hts gL_admit_X5_admit rfl rfl rfl (by decide +kernel) ⟨Nat.le_of_ble_eq_true rfl, Nat.le_of_ble_eq_true rfl⟩) (z_preV hA hS hH (z_recv hA hH (zk0 k_x (by decide)) (zE_k6 k_x) (q := (RX5, TX5, 6)) rfl)) rfl rfl hl.1 rfl (lv_room (Nat.le_of_ble_eq_true rfl)) dL_admit_5 ⟨Nat.le_of_ble_eq_true rfl, Nat.le_of_ble_eq_true rfl⟩) hS (fun E9 ce9 q9 u9 H locs hw9 hH hz9 hS hce9 hv9 hcl9 => ?_) (fun r9 u9 H locs hw9 hH hz9 hS => ?_)
  · obtain ⟨hthr, hu9⟩ := hw9
    rw [hu9] at hH
    rcases hthr with ⟨hc9, rfl⟩ | ⟨hc9, rfl⟩
    · refine vx_catch (name := zIae) hown [] ⟨0, 10, 13, 13⟩ [⟨0, 10, 17, 15⟩] htb (fun z9 h9 => nomatch h9) rfl (by decide) (hts (.classLink RL 13 zIae) (by decide +kernel)) (castable_self hcl9) hce9 hv9 hcl9 ?_
      refine W.eq (g2 := F0 m 13 ls [.ref q9]) rfl ?_
      refine lv_astore (lv' := [(4, .ref q9), (0, .ref x), (1, .int d), (2, .int k), (3, .ref o9)]) hx hb dL_admit_13 hl (by decide) rfl (fun ls hl => ?_)
      refine lv_iconst (v := 1) hx hb dL_admit_15 (by decide) ?_
      refine vx_ret ?_
      exact z_iret hx hb hr hlocks hH hS (Or.inr ⟨by rw [hc9]; decide, hc9.symm, rfl⟩) (by decide) (by decide) dL_admit_16
    · refine vx_catch (name := zIse) hown [⟨0, 10, 13, 13⟩] ⟨0, 10, 17, 15⟩ [] htb (by
        intro z9 h9
        simp only [List.mem_cons, List.not_mem_nil, or_false] at h9
        rcases h9 with rfl
        · exact Or.inr ⟨by decide, zIae, hts (.classLink RL 13 zIae) (by decide +kernel), hA.2.2.2.2.2.2.2.1⟩) rfl (by decide) (hts (.classLink RL 15 zIse) (by decide +kernel)) (castable_self hcl9) hce9 hv9 hcl9 ?_
      refine W.eq (g2 := F0 m 17 ls [.ref q9]) rfl ?_
      refine lv_astore (lv' := [(4, .ref q9), (0, .ref x), (1, .int d), (2, .int k), (3, .ref o9)]) hx hb dL_admit_17 hl (by decide) rfl (fun ls hl => ?_)
      refine lv_iconst (v := 2) hx hb dL_admit_19 (by decide) ?_
      refine vx_ret ?_
      exact z_iret hx hb hr hlocks hH hS (Or.inr ⟨by rw [hc9]; decide, hc9.symm, rfl⟩) (by decide) (by decide) dL_admit_20
  · obtain ⟨hc9, rfl, hRep9, hF9⟩ := hw9
    have hFo := hF9 o9 (Or.inr (Or.inr (Or.inr k_o)))
    refine lv_i2l (v := ((an_admit B)).toInt64) hx hb dL_admit_8 rfl ?_
    refine z_jast hx hb hA hH hS (zk0 (hFo.1.trans k_o) (by decide)) (zEn (zE_k14 (hFo.1.trans k_o)) (hFo.2.1.trans n_o)) 0 rfl (by decide) (by decide) (w' := zsJ u9 o9 0 (((an_admit B)).toInt64)) (zEn (zst_14 (w := u9) (hFo.1.trans k_o) _ _) (hFo.2.1.trans n_o)) (zsJ_oth u9 o9 0 _) (fun _ => rfl) dL_admit_9 (fun H locs hH hS => ?_)
    refine lv_goto (tgt := 21) hx hb dL_admit_10 (by decide) ?_
    refine lv_iconst (v := 0) hx hb dL_admit_21 (by decide) ?_
    refine vx_ret ?_
    exact z_iret hx hb hr hlocks hH hS (Or.inl ⟨hc9, rfl, gRep hRep9, gFr_J hF9 _ _ _, gJ _ _ _ _⟩) (by decide) (by decide) dL_admit_22
set_option maxHeartbeats 4000000 in
set_option maxRecDepth 100000 in
theorem zL_course (l : Launch) (hl9 : l.stackTraces = false) (D : va_G) (cy : Nat → ClassId) (base : Nat) (w : zW) (x : Nat) (o9 : Nat) (B : mB) (its : Int32) (sk : Int32) (days : Int32) (k_o : zK w o9 = 14) (n_o : zN w o9 = 1) (hRep : Rep w x B) (hJ : mJ B) : vx_Met l yL_course wsL_course ({ frames := 8, cells := 8, slots := 100, locals := 136 }) (zPc D cy base (zH D cy base) [.ref x, .int its, .int sk, .int days, .ref o9] w) (zQi base (zH D cy base) (fun (r0 : Int32) (u0 : zW) => ((cd_course B its sk days) = 0 ∧ r0 = 0 ∧ Rep u0 x (up_course B its sk days) ∧ gFr w u0 ∧ zJ u0 o9 0 = (an_course B its sk days).toInt64) ∨ (¬ (cd_course B its sk days) = 0 ∧ r0 = (cd_course B its sk days) ∧ u0 = w))) (zXC base (zH D cy base) (fun (_ : String) (_ : zW) => False)) 8 100 (fun q => base ≤ q) := by
  obtain ⟨ad, hR⟩ := hRep
  obtain ⟨hinv, hinv2, hinv3⟩ := hJ
  refine vx_ofWH (cc := cL_course) (maxL := 6) (ret := (some .int)) (hh := [(0, 12, 15, 21), (0, 12, 19, 13), (0, 12, 23, 15)]) (by decide) rfl ?_
  intro p e s m args below meth c s₁ B9 hml hv
  obtain ⟨rfl, hA, hH⟩ := hv
  have hx := B9.exec
  have hb := B9.bytes
  have hr := B9.returns
  have hts := atoms_spec (ws := wsL_course) B9.pre
  have hown : s.vm.findClass RL = some m.cls := findClass_of_methodNamed B9.named
  have hlocks := B9.notSynchronized
  have htb : c.exceptionTable.toList = [⟨0, 12, 15, 21⟩, ⟨0, 12, 19, 13⟩, ⟨0, 12, 23, 15⟩] := vx_table (x := yL_course) B9 (hts (.codeWith yL_course cL_course 6 (some .int) [(0, 12, 15, 21), (0, 12, 19, 13), (0, 12, 23, 15)]) (by decide +kernel))
  have hS : va_S (fun q : Nat => base ≤ q) s.heap s.heap [] := va_S.rf
  have hl := lv_entry ([.ref x, .int its, .int sk, .int days, .ref o9]) (n := 6) (Nat.le_of_ble_eq_true rfl)
  rw [lg_entry_eq]
  generalize (lg_sl ([.ref x, .int its, .int sk, .int days, .ref o9]) ++ List.replicate (6 - (lg_sl ([.ref x, .int its, .int sk, .int days, .ref o9])).length) Slot.unset).toArray = ls at hl ⊢
  have hl : lv_has ls 6 [(0, .ref x), (1, .int its), (2, .int sk), (3, .int days), (4, .ref o9)] := hl
  have k_x := hR.1.1.1
  refine lv_aload hx hb dL_course_0 (lv_at hl 4 rfl) ?_
  refine lv_iconst (v := 0) hx hb dL_course_2 (by decide) ?_
  refine lv_aload_n hx hb dL_course_3 rfl (lv_at hl 0 rfl) ?_
  refine lv_iload_n hx hb dL_course_4 rfl (lv_at hl 1 rfl) ?_
  refine lv_iload_n hx hb dL_course_5 rfl (lv_at hl 2 rfl) ?_
  refine lv_iload_n hx hb dL_course_6 rfl (lv_at hl 3 rfl) ?_
  refine z_xcalli (vx_runV (As := [.int its, .int sk, .int days]) (rest := [.int 0, .ref o9]) ⟨hx, hb, hml, hown, hts⟩ (c5_course l hl9 D cy base w x ad B its sk days hR hinv hinv2) (cwV 3 hts gL_course_X5_course rfl rfl rfl (by decide +kernel) ⟨Nat.le_of_ble_eq_true rfl, Nat.le_of_ble_eq_true rfl⟩) (z_preV hA hS hH (z_recv hA hH (zk0 k_x (by decide)) (zE_k6 k_x) (q := (RX5, TX5, 6)) rfl)) rfl rfl hl.1 rfl (lv_room (Nat.le_of_ble_eq_true rfl)) dL_course_7 ⟨Nat.le_of_ble_eq_true rfl, Nat.le_of_ble_eq_true rfl⟩) hS (fun E9 ce9 q9 u9 H locs hw9 hH hz9 hS hce9 hv9 hcl9 => ?_) (fun r9 u9 H locs hw9 hH hz9 hS => ?_)
  · obtain ⟨hthr, hu9⟩ := hw9
    rw [hu9] at hH
    rcases hthr with ⟨hc9, rfl⟩ | ⟨hc9, rfl⟩ | ⟨hc9, rfl⟩
    · refine vx_catch (name := zIob) hown [] ⟨0, 12, 15, 21⟩ [⟨0, 12, 19, 13⟩, ⟨0, 12, 23, 15⟩] htb (fun z9 h9 => nomatch h9) rfl (by decide) (hts (.classLink RL 21 zIob) (by decide +kernel)) (castable_self hcl9) hce9 hv9 hcl9 ?_
      refine W.eq (g2 := F0 m 15 ls [.ref q9]) rfl ?_
      refine lv_astore (lv' := [(5, .ref q9), (0, .ref x), (1, .int its), (2, .int sk), (3, .int days), (4, .ref o9)]) hx hb dL_course_15 hl (by decide) rfl (fun ls hl => ?_)
      refine lv_iconst (v := 1) hx hb dL_course_17 (by decide) ?_
      refine vx_ret ?_
      exact z_iret hx hb hr hlocks hH hS (Or.inr ⟨by rw [hc9]; decide, hc9.symm, rfl⟩) (by decide) (by decide) dL_course_18
    · refine vx_catch (name := zIae) hown [⟨0, 12, 15, 21⟩] ⟨0, 12, 19, 13⟩ [⟨0, 12, 23, 15⟩] htb (by
        intro z9 h9
        simp only [List.mem_cons, List.not_mem_nil, or_false] at h9
        rcases h9 with rfl
        · exact Or.inr ⟨by decide, zIob, hts (.classLink RL 21 zIob) (by decide +kernel), hA.2.2.2.2.2.2.2.2.1⟩) rfl (by decide) (hts (.classLink RL 13 zIae) (by decide +kernel)) (castable_self hcl9) hce9 hv9 hcl9 ?_
      refine W.eq (g2 := F0 m 19 ls [.ref q9]) rfl ?_
      refine lv_astore (lv' := [(5, .ref q9), (0, .ref x), (1, .int its), (2, .int sk), (3, .int days), (4, .ref o9)]) hx hb dL_course_19 hl (by decide) rfl (fun ls hl => ?_)
      refine lv_iconst (v := 2) hx hb dL_course_21 (by decide) ?_
      refine vx_ret ?_
      exact z_iret hx hb hr hlocks hH hS (Or.inr ⟨by rw [hc9]; decide, hc9.symm, rfl⟩) (by decide) (by decide) dL_course_22
    · refine vx_catch (name := zIse) hown [⟨0, 12, 15, 21⟩, ⟨0, 12, 19, 13⟩] ⟨0, 12, 23, 15⟩ [] htb (by
        intro z9 h9
        simp only [List.mem_cons, List.not_mem_nil, or_false] at h9
        rcases h9 with rfl | rfl
        · exact Or.inr ⟨by decide, zIob, hts (.classLink RL 21 zIob) (by decide +kernel), hA.2.2.2.2.2.2.1⟩
        · exact Or.inr ⟨by decide, zIae, hts (.classLink RL 13 zIae) (by decide +kernel), hA.2.2.2.2.2.2.2.1⟩) rfl (by decide) (hts (.classLink RL 15 zIse) (by decide +kernel)) (castable_self hcl9) hce9 hv9 hcl9 ?_
      refine W.eq (g2 := F0 m 23 ls [.ref q9]) rfl ?_
      refine lv_astore (lv' := [(5, .ref q9), (0, .ref x), (1, .int its), (2, .int sk), (3, .int days), (4, .ref o9)]) hx hb dL_course_23 hl (by decide) rfl (fun ls hl => ?_)
      refine lv_iconst (v := 3) hx hb dL_course_25 (by decide) ?_
      refine vx_ret ?_
      exact z_iret hx hb hr hlocks hH hS (Or.inr ⟨by rw [hc9]; decide, hc9.symm, rfl⟩) (by decide) (by decide) dL_course_26
  · obtain ⟨hc9, rfl, hRep9, hF9⟩ := hw9
    have hFo := hF9 o9 (Or.inr (Or.inr (Or.inr k_o)))
    refine lv_i2l (v := ((an_course B its sk days)).toInt64) hx hb dL_course_10 rfl ?_
    refine z_jast hx hb hA hH hS (zk0 (hFo.1.trans k_o) (by decide)) (zEn (zE_k14 (hFo.1.trans k_o)) (hFo.2.1.trans n_o)) 0 rfl (by decide) (by decide) (w' := zsJ u9 o9 0 (((an_course B its sk days)).toInt64)) (zEn (zst_14 (w := u9) (hFo.1.trans k_o) _ _) (hFo.2.1.trans n_o)) (zsJ_oth u9 o9 0 _) (fun _ => rfl) dL_course_11 (fun H locs hH hS => ?_)
    refine lv_goto (tgt := 27) hx hb dL_course_12 (by decide) ?_
    refine lv_iconst (v := 0) hx hb dL_course_27 (by decide) ?_
    refine vx_ret ?_
    exact z_iret hx hb hr hlocks hH hS (Or.inl ⟨hc9, rfl, gRep hRep9, gFr_J hF9 _ _ _, gJ _ _ _ _⟩) (by decide) (by decide) dL_course_28
set_option maxHeartbeats 4000000 in
set_option maxRecDepth 100000 in
theorem zL_offence (l : Launch) (hl9 : l.stackTraces = false) (D : va_G) (cy : Nat → ClassId) (base : Nat) (w : zW) (x : Nat) (o9 : Nat) (B : mB) (its : Int32) (days : Int32) (k_o : zK w o9 = 14) (n_o : zN w o9 = 1) (hRep : Rep w x B) (hJ : mJ B) : vx_Met l yL_offence wsL_offence ({ frames := 8, cells := 8, slots := 100, locals := 137 }) (zPc D cy base (zH D cy base) [.ref x, .int its, .int days, .ref o9] w) (zQi base (zH D cy base) (fun (r0 : Int32) (u0 : zW) => ((cd_offence B its days) = 0 ∧ r0 = 0 ∧ Rep u0 x (up_offence B its days) ∧ gFr w u0 ∧ zJ u0 o9 0 = (an_offence B its).toInt64) ∨ (¬ (cd_offence B its days) = 0 ∧ r0 = (cd_offence B its days) ∧ u0 = w))) (zXC base (zH D cy base) (fun (_ : String) (_ : zW) => False)) 8 100 (fun q => base ≤ q) := by
  obtain ⟨ad, hR⟩ := hRep
  obtain ⟨hinv, hinv2, hinv3⟩ := hJ
  refine vx_ofWH (cc := cL_offence) (maxL := 5) (ret := (some .int)) (hh := [(0, 10, 13, 21), (0, 10, 17, 13), (0, 10, 21, 15)]) (by decide) rfl ?_
  intro p e s m args below meth c s₁ B9 hml hv
  obtain ⟨rfl, hA, hH⟩ := hv
  have hx := B9.exec
  have hb := B9.bytes
  have hr := B9.returns
  have hts := atoms_spec (ws := wsL_offence) B9.pre
  have hown : s.vm.findClass RL = some m.cls := findClass_of_methodNamed B9.named
  have hlocks := B9.notSynchronized
  have htb : c.exceptionTable.toList = [⟨0, 10, 13, 21⟩, ⟨0, 10, 17, 13⟩, ⟨0, 10, 21, 15⟩] := vx_table (x := yL_offence) B9 (hts (.codeWith yL_offence cL_offence 5 (some .int) [(0, 10, 13, 21), (0, 10, 17, 13), (0, 10, 21, 15)]) (by decide +kernel))
  have hS : va_S (fun q : Nat => base ≤ q) s.heap s.heap [] := va_S.rf
  have hl := lv_entry ([.ref x, .int its, .int days, .ref o9]) (n := 5) (Nat.le_of_ble_eq_true rfl)
  rw [lg_entry_eq]
  generalize (lg_sl ([.ref x, .int its, .int days, .ref o9]) ++ List.replicate (5 - (lg_sl ([.ref x, .int its, .int days, .ref o9])).length) Slot.unset).toArray = ls at hl ⊢
  have hl : lv_has ls 5 [(0, .ref x), (1, .int its), (2, .int days), (3, .ref o9)] := hl
  have k_x := hR.1.1.1
  refine lv_aload_n hx hb dL_offence_0 rfl (lv_at hl 3 rfl) ?_
  refine lv_iconst (v := 0) hx hb dL_offence_1 (by decide) ?_
  refine lv_aload_n hx hb dL_offence_2 rfl (lv_at hl 0 rfl) ?_
  refine lv_iload_n hx hb dL_offence_3 rfl (lv_at hl 1 rfl) ?_
  refine lv_iload_n hx hb dL_offence_4 rfl (lv_at hl 2 rfl) ?_
  refine z_xcalli (vx_runV (As := [.int its, .int days]) (rest := [.int 0, .ref o9]) ⟨hx, hb, hml, hown, hts⟩ (c5_offence l hl9 D cy base w x ad B its days hR hinv hinv2) (cwV 2 hts gL_offence_X5_offence rfl rfl rfl (by decide +kernel) ⟨Nat.le_of_ble_eq_true rfl, Nat.le_of_ble_eq_true rfl⟩) (z_preV hA hS hH (z_recv hA hH (zk0 k_x (by decide)) (zE_k6 k_x) (q := (RX5, TX5, 6)) rfl)) rfl rfl hl.1 rfl (lv_room (Nat.le_of_ble_eq_true rfl)) dL_offence_5 ⟨Nat.le_of_ble_eq_true rfl, Nat.le_of_ble_eq_true rfl⟩) hS (fun E9 ce9 q9 u9 H locs hw9 hH hz9 hS hce9 hv9 hcl9 => ?_) (fun r9 u9 H locs hw9 hH hz9 hS => ?_)
  · obtain ⟨hthr, hu9⟩ := hw9
    rw [hu9] at hH
    rcases hthr with ⟨hc9, rfl⟩ | ⟨hc9, rfl⟩ | ⟨hc9, rfl⟩
    · refine vx_catch (name := zIob) hown [] ⟨0, 10, 13, 21⟩ [⟨0, 10, 17, 13⟩, ⟨0, 10, 21, 15⟩] htb (fun z9 h9 => nomatch h9) rfl (by decide) (hts (.classLink RL 21 zIob) (by decide +kernel)) (castable_self hcl9) hce9 hv9 hcl9 ?_
      refine W.eq (g2 := F0 m 13 ls [.ref q9]) rfl ?_
      refine lv_astore (lv' := [(4, .ref q9), (0, .ref x), (1, .int its), (2, .int days), (3, .ref o9)]) hx hb dL_offence_13 hl (by decide) rfl (fun ls hl => ?_)
      refine lv_iconst (v := 1) hx hb dL_offence_15 (by decide) ?_
      refine vx_ret ?_
      exact z_iret hx hb hr hlocks hH hS (Or.inr ⟨by rw [hc9]; decide, hc9.symm, rfl⟩) (by decide) (by decide) dL_offence_16
    · refine vx_catch (name := zIae) hown [⟨0, 10, 13, 21⟩] ⟨0, 10, 17, 13⟩ [⟨0, 10, 21, 15⟩] htb (by
        intro z9 h9
        simp only [List.mem_cons, List.not_mem_nil, or_false] at h9
        rcases h9 with rfl
        · exact Or.inr ⟨by decide, zIob, hts (.classLink RL 21 zIob) (by decide +kernel), hA.2.2.2.2.2.2.2.2.1⟩) rfl (by decide) (hts (.classLink RL 13 zIae) (by decide +kernel)) (castable_self hcl9) hce9 hv9 hcl9 ?_
      refine W.eq (g2 := F0 m 17 ls [.ref q9]) rfl ?_
      refine lv_astore (lv' := [(4, .ref q9), (0, .ref x), (1, .int its), (2, .int days), (3, .ref o9)]) hx hb dL_offence_17 hl (by decide) rfl (fun ls hl => ?_)
      refine lv_iconst (v := 2) hx hb dL_offence_19 (by decide) ?_
      refine vx_ret ?_
      exact z_iret hx hb hr hlocks hH hS (Or.inr ⟨by rw [hc9]; decide, hc9.symm, rfl⟩) (by decide) (by decide) dL_offence_20
    · refine vx_catch (name := zIse) hown [⟨0, 10, 13, 21⟩, ⟨0, 10, 17, 13⟩] ⟨0, 10, 21, 15⟩ [] htb (by
        intro z9 h9
        simp only [List.mem_cons, List.not_mem_nil, or_false] at h9
        rcases h9 with rfl | rfl
        · exact Or.inr ⟨by decide, zIob, hts (.classLink RL 21 zIob) (by decide +kernel), hA.2.2.2.2.2.2.1⟩
        · exact Or.inr ⟨by decide, zIae, hts (.classLink RL 13 zIae) (by decide +kernel), hA.2.2.2.2.2.2.2.1⟩) rfl (by decide) (hts (.classLink RL 15 zIse) (by decide +kernel)) (castable_self hcl9) hce9 hv9 hcl9 ?_
      refine W.eq (g2 := F0 m 21 ls [.ref q9]) rfl ?_
      refine lv_astore (lv' := [(4, .ref q9), (0, .ref x), (1, .int its), (2, .int days), (3, .ref o9)]) hx hb dL_offence_21 hl (by decide) rfl (fun ls hl => ?_)
      refine lv_iconst (v := 3) hx hb dL_offence_23 (by decide) ?_
      refine vx_ret ?_
      exact z_iret hx hb hr hlocks hH hS (Or.inr ⟨by rw [hc9]; decide, hc9.symm, rfl⟩) (by decide) (by decide) dL_offence_24
  · obtain ⟨hc9, rfl, hRep9, hF9⟩ := hw9
    have hFo := hF9 o9 (Or.inr (Or.inr (Or.inr k_o)))
    refine lv_i2l (v := ((an_offence B its)).toInt64) hx hb dL_offence_8 rfl ?_
    refine z_jast hx hb hA hH hS (zk0 (hFo.1.trans k_o) (by decide)) (zEn (zE_k14 (hFo.1.trans k_o)) (hFo.2.1.trans n_o)) 0 rfl (by decide) (by decide) (w' := zsJ u9 o9 0 (((an_offence B its)).toInt64)) (zEn (zst_14 (w := u9) (hFo.1.trans k_o) _ _) (hFo.2.1.trans n_o)) (zsJ_oth u9 o9 0 _) (fun _ => rfl) dL_offence_9 (fun H locs hH hS => ?_)
    refine lv_goto (tgt := 25) hx hb dL_offence_10 (by decide) ?_
    refine lv_iconst (v := 0) hx hb dL_offence_25 (by decide) ?_
    refine vx_ret ?_
    exact z_iret hx hb hr hlocks hH hS (Or.inl ⟨hc9, rfl, gRep hRep9, gFr_J hF9 _ _ _, gJ _ _ _ _⟩) (by decide) (by decide) dL_offence_26
set_option maxHeartbeats 4000000 in
set_option maxRecDepth 100000 in
theorem zL_appeal (l : Launch) (hl9 : l.stackTraces = false) (D : va_G) (cy : Nat → ClassId) (base : Nat) (w : zW) (x : Nat) (o9 : Nat) (B : mB) (its : Int32) (which : Int32) (k_o : zK w o9 = 14) (n_o : zN w o9 = 1) (hRep : Rep w x B) (hJ : mJ B) : vx_Met l yL_appeal wsL_appeal ({ frames := 8, cells := 8, slots := 100, locals := 136 }) (zPc D cy base (zH D cy base) [.ref x, .int its, .int which, .ref o9] w) (zQi base (zH D cy base) (fun (r0 : Int32) (u0 : zW) => ((cd_appeal B its which) = 0 ∧ r0 = 0 ∧ Rep u0 x (up_appeal B its which) ∧ gFr w u0 ∧ zJ u0 o9 0 = (an_appeal B its which).toInt64) ∨ (¬ (cd_appeal B its which) = 0 ∧ r0 = (cd_appeal B its which) ∧ u0 = w))) (zXC base (zH D cy base) (fun (_ : String) (_ : zW) => False)) 8 100 (fun q => base ≤ q) := by
  obtain ⟨ad, hR⟩ := hRep
  obtain ⟨hinv, hinv2, hinv3⟩ := hJ
  refine vx_ofWH (cc := cL_appeal) (maxL := 5) (ret := (some .int)) (hh := [(0, 10, 13, 21), (0, 10, 17, 15)]) (by decide) rfl ?_
  intro p e s m args below meth c s₁ B9 hml hv
  obtain ⟨rfl, hA, hH⟩ := hv
  have hx := B9.exec
  have hb := B9.bytes
  have hr := B9.returns
  have hts := atoms_spec (ws := wsL_appeal) B9.pre
  have hown : s.vm.findClass RL = some m.cls := findClass_of_methodNamed B9.named
  have hlocks := B9.notSynchronized
  have htb : c.exceptionTable.toList = [⟨0, 10, 13, 21⟩, ⟨0, 10, 17, 15⟩] := vx_table (x := yL_appeal) B9 (hts (.codeWith yL_appeal cL_appeal 5 (some .int) [(0, 10, 13, 21), (0, 10, 17, 15)]) (by decide +kernel))
  have hS : va_S (fun q : Nat => base ≤ q) s.heap s.heap [] := va_S.rf
  have hl := lv_entry ([.ref x, .int its, .int which, .ref o9]) (n := 5) (Nat.le_of_ble_eq_true rfl)
  rw [lg_entry_eq]
  generalize (lg_sl ([.ref x, .int its, .int which, .ref o9]) ++ List.replicate (5 - (lg_sl ([.ref x, .int its, .int which, .ref o9])).length) Slot.unset).toArray = ls at hl ⊢
  have hl : lv_has ls 5 [(0, .ref x), (1, .int its), (2, .int which), (3, .ref o9)] := hl
  have k_x := hR.1.1.1
  refine lv_aload_n hx hb dL_appeal_0 rfl (lv_at hl 3 rfl) ?_
  refine lv_iconst (v := 0) hx hb dL_appeal_1 (by decide) ?_
  refine lv_aload_n hx hb dL_appeal_2 rfl (lv_at hl 0 rfl) ?_
  refine lv_iload_n hx hb dL_appeal_3 rfl (lv_at hl 1 rfl) ?_
  refine lv_iload_n hx hb dL_appeal_4 rfl (lv_at hl 2 rfl) ?_
  refine z_xcalli (vx_runV (As := [.int its, .int which]) (rest := [.int 0, .ref o9]) ⟨hx, hb, hml, hown, hts⟩ (c5_appeal l hl9 D cy base w x ad B its which hR hinv hinv2) (cwV 2 hts gL_appeal_X5_appeal rfl rfl rfl (by decide +kernel) ⟨Nat.le_of_ble_eq_true rfl, Nat.le_of_ble_eq_true rfl⟩) (z_preV hA hS hH (z_recv hA hH (zk0 k_x (by decide)) (zE_k6 k_x) (q := (RX5, TX5, 6)) rfl)) rfl rfl hl.1 rfl (lv_room (Nat.le_of_ble_eq_true rfl)) dL_appeal_5 ⟨Nat.le_of_ble_eq_true rfl, Nat.le_of_ble_eq_true rfl⟩) hS (fun E9 ce9 q9 u9 H locs hw9 hH hz9 hS hce9 hv9 hcl9 => ?_) (fun r9 u9 H locs hw9 hH hz9 hS => ?_)
  · obtain ⟨hthr, hu9⟩ := hw9
    rw [hu9] at hH
    rcases hthr with ⟨hc9, rfl⟩ | ⟨hc9, rfl⟩
    · refine vx_catch (name := zIob) hown [] ⟨0, 10, 13, 21⟩ [⟨0, 10, 17, 15⟩] htb (fun z9 h9 => nomatch h9) rfl (by decide) (hts (.classLink RL 21 zIob) (by decide +kernel)) (castable_self hcl9) hce9 hv9 hcl9 ?_
      refine W.eq (g2 := F0 m 13 ls [.ref q9]) rfl ?_
      refine lv_astore (lv' := [(4, .ref q9), (0, .ref x), (1, .int its), (2, .int which), (3, .ref o9)]) hx hb dL_appeal_13 hl (by decide) rfl (fun ls hl => ?_)
      refine lv_iconst (v := 1) hx hb dL_appeal_15 (by decide) ?_
      refine vx_ret ?_
      exact z_iret hx hb hr hlocks hH hS (Or.inr ⟨by rw [hc9]; decide, hc9.symm, rfl⟩) (by decide) (by decide) dL_appeal_16
    · refine vx_catch (name := zIse) hown [⟨0, 10, 13, 21⟩] ⟨0, 10, 17, 15⟩ [] htb (by
        intro z9 h9
        simp only [List.mem_cons, List.not_mem_nil, or_false] at h9
        rcases h9 with rfl
        · exact Or.inr ⟨by decide, zIob, hts (.classLink RL 21 zIob) (by decide +kernel), hA.2.2.2.2.2.2.1⟩) rfl (by decide) (hts (.classLink RL 15 zIse) (by decide +kernel)) (castable_self hcl9) hce9 hv9 hcl9 ?_
      refine W.eq (g2 := F0 m 17 ls [.ref q9]) rfl ?_
      refine lv_astore (lv' := [(4, .ref q9), (0, .ref x), (1, .int its), (2, .int which), (3, .ref o9)]) hx hb dL_appeal_17 hl (by decide) rfl (fun ls hl => ?_)
      refine lv_iconst (v := 2) hx hb dL_appeal_19 (by decide) ?_
      refine vx_ret ?_
      exact z_iret hx hb hr hlocks hH hS (Or.inr ⟨by rw [hc9]; decide, hc9.symm, rfl⟩) (by decide) (by decide) dL_appeal_20
  · obtain ⟨hc9, rfl, hRep9, hF9⟩ := hw9
    have hFo := hF9 o9 (Or.inr (Or.inr (Or.inr k_o)))
    refine lv_i2l (v := ((an_appeal B its which)).toInt64) hx hb dL_appeal_8 rfl ?_
    refine z_jast hx hb hA hH hS (zk0 (hFo.1.trans k_o) (by decide)) (zEn (zE_k14 (hFo.1.trans k_o)) (hFo.2.1.trans n_o)) 0 rfl (by decide) (by decide) (w' := zsJ u9 o9 0 (((an_appeal B its which)).toInt64)) (zEn (zst_14 (w := u9) (hFo.1.trans k_o) _ _) (hFo.2.1.trans n_o)) (zsJ_oth u9 o9 0 _) (fun _ => rfl) dL_appeal_9 (fun H locs hH hS => ?_)
    refine lv_goto (tgt := 21) hx hb dL_appeal_10 (by decide) ?_
    refine lv_iconst (v := 0) hx hb dL_appeal_21 (by decide) ?_
    refine vx_ret ?_
    exact z_iret hx hb hr hlocks hH hS (Or.inl ⟨hc9, rfl, gRep hRep9, gFr_J hF9 _ _ _, gJ _ _ _ _⟩) (by decide) (by decide) dL_appeal_22
set_option maxHeartbeats 4000000 in
set_option maxRecDepth 100000 in
theorem zL_release (l : Launch) (hl9 : l.stackTraces = false) (D : va_G) (cy : Nat → ClassId) (base : Nat) (w : zW) (x : Nat) (o9 : Nat) (B : mB) (its : Int32) (k_o : zK w o9 = 14) (n_o : zN w o9 = 1) (hRep : Rep w x B) (hJ : mJ B) : vx_Met l yL_release wsL_release ({ frames := 8, cells := 8, slots := 100, locals := 133 }) (zPc D cy base (zH D cy base) [.ref x, .int its, .ref o9] w) (zQi base (zH D cy base) (fun (r0 : Int32) (u0 : zW) => ((cd_P B its) = 0 ∧ r0 = 0 ∧ Rep u0 x (B) ∧ gFr w u0 ∧ zJ u0 o9 0 = (an_release B its).toInt64) ∨ (¬ (cd_P B its) = 0 ∧ r0 = (cd_P B its) ∧ u0 = w))) (zXC base (zH D cy base) (fun (_ : String) (_ : zW) => False)) 8 100 (fun q => base ≤ q) := by
  obtain ⟨ad, hR⟩ := hRep
  obtain ⟨hinv, hinv2, hinv3⟩ := hJ
  refine vx_ofWH (cc := cL_release) (maxL := 4) (ret := (some .int)) (hh := [(0, 9, 12, 21)]) (by decide) rfl ?_
  intro p e s m args below meth c s₁ B9 hml hv
  obtain ⟨rfl, hA, hH⟩ := hv
  have hx := B9.exec
  have hb := B9.bytes
  have hr := B9.returns
  have hts := atoms_spec (ws := wsL_release) B9.pre
  have hown : s.vm.findClass RL = some m.cls := findClass_of_methodNamed B9.named
  have hlocks := B9.notSynchronized
  have htb : c.exceptionTable.toList = [⟨0, 9, 12, 21⟩] := vx_table (x := yL_release) B9 (hts (.codeWith yL_release cL_release 4 (some .int) [(0, 9, 12, 21)]) (by decide +kernel))
  have hS : va_S (fun q : Nat => base ≤ q) s.heap s.heap [] := va_S.rf
  have hl := lv_entry ([.ref x, .int its, .ref o9]) (n := 4) (Nat.le_of_ble_eq_true rfl)
  rw [lg_entry_eq]
  generalize (lg_sl ([.ref x, .int its, .ref o9]) ++ List.replicate (4 - (lg_sl ([.ref x, .int its, .ref o9])).length) Slot.unset).toArray = ls at hl ⊢
  have hl : lv_has ls 4 [(0, .ref x), (1, .int its), (2, .ref o9)] := hl
  have k_x := hR.1.1.1
  refine lv_aload_n hx hb dL_release_0 rfl (lv_at hl 2 rfl) ?_
  refine lv_iconst (v := 0) hx hb dL_release_1 (by decide) ?_
  refine lv_aload_n hx hb dL_release_2 rfl (lv_at hl 0 rfl) ?_
  refine lv_iload_n hx hb dL_release_3 rfl (lv_at hl 1 rfl) ?_
  refine z_xcalli (vx_runV (As := [.int its]) (rest := [.int 0, .ref o9]) ⟨hx, hb, hml, hown, hts⟩ (c5_release l hl9 D cy base w x ad B its hR hinv hinv2) (cwV 1 hts gL_release_X5_release rfl rfl rfl (by decide +kernel) ⟨Nat.le_of_ble_eq_true rfl, Nat.le_of_ble_eq_true rfl⟩) (z_preV hA hS hH (z_recv hA hH (zk0 k_x (by decide)) (zE_k6 k_x) (q := (RX5, TX5, 6)) rfl)) rfl rfl hl.1 rfl (lv_room (Nat.le_of_ble_eq_true rfl)) dL_release_4 ⟨Nat.le_of_ble_eq_true rfl, Nat.le_of_ble_eq_true rfl⟩) hS (fun E9 ce9 q9 u9 H locs hw9 hH hz9 hS hce9 hv9 hcl9 => ?_) (fun r9 u9 H locs hw9 hH hz9 hS => ?_)
  · obtain ⟨hthr, hu9⟩ := hw9
    rw [hu9] at hH
    obtain ⟨hc9, rfl⟩ := hthr
    refine vx_catch (name := zIob) hown [] ⟨0, 9, 12, 21⟩ [] htb (fun z9 h9 => nomatch h9) rfl (by decide) (hts (.classLink RL 21 zIob) (by decide +kernel)) (castable_self hcl9) hce9 hv9 hcl9 ?_
    refine W.eq (g2 := F0 m 12 ls [.ref q9]) rfl ?_
    refine lv_astore_n (lv' := [(3, .ref q9), (0, .ref x), (1, .int its), (2, .ref o9)]) hx hb dL_release_12 rfl hl (by decide) rfl (fun ls hl => ?_)
    refine lv_iconst (v := 1) hx hb dL_release_13 (by decide) ?_
    refine vx_ret ?_
    exact z_iret hx hb hr hlocks hH hS (Or.inr ⟨by rw [hc9]; decide, hc9.symm, rfl⟩) (by decide) (by decide) dL_release_14
  · obtain ⟨hc9, rfl, hRep9, hF9⟩ := hw9
    have hFo := hF9 o9 (Or.inr (Or.inr (Or.inr k_o)))
    refine lv_i2l (v := ((an_release B its)).toInt64) hx hb dL_release_7 rfl ?_
    refine z_jast hx hb hA hH hS (zk0 (hFo.1.trans k_o) (by decide)) (zEn (zE_k14 (hFo.1.trans k_o)) (hFo.2.1.trans n_o)) 0 rfl (by decide) (by decide) (w' := zsJ u9 o9 0 (((an_release B its)).toInt64)) (zEn (zst_14 (w := u9) (hFo.1.trans k_o) _ _) (hFo.2.1.trans n_o)) (zsJ_oth u9 o9 0 _) (fun _ => rfl) dL_release_8 (fun H locs hH hS => ?_)
    refine lv_goto (tgt := 15) hx hb dL_release_9 (by decide) ?_
    refine lv_iconst (v := 0) hx hb dL_release_15 (by decide) ?_
    refine vx_ret ?_
    exact z_iret hx hb hr hlocks hH hS (Or.inl ⟨hc9, rfl, gRep hRep9, gFr_J hF9 _ _ _, gJ _ _ _ _⟩) (by decide) (by decide) dL_release_16
set_option maxHeartbeats 4000000 in
set_option maxRecDepth 100000 in
theorem zL_isIn (l : Launch) (hl9 : l.stackTraces = false) (D : va_G) (cy : Nat → ClassId) (base : Nat) (w : zW) (x : Nat) (o9 : Nat) (B : mB) (its : Int32) (k_o : zK w o9 = 14) (n_o : zN w o9 = 1) (hRep : Rep w x B) (hJ : mJ B) : vx_Met l yL_isIn wsL_isIn ({ frames := 8, cells := 8, slots := 100, locals := 133 }) (zPc D cy base (zH D cy base) [.ref x, .int its, .ref o9] w) (zQi base (zH D cy base) (fun (r0 : Int32) (u0 : zW) => ((cd_P B its) = 0 ∧ r0 = 0 ∧ Rep u0 x (B) ∧ gFr w u0 ∧ zJ u0 o9 0 = (if (an_isIn B its) = 0 then (0 : Int64) else 1)) ∨ (¬ (cd_P B its) = 0 ∧ r0 = (cd_P B its) ∧ u0 = w))) (zXC base (zH D cy base) (fun (_ : String) (_ : zW) => False)) 8 100 (fun q => base ≤ q) := by
  obtain ⟨ad, hR⟩ := hRep
  obtain ⟨hinv, hinv2, hinv3⟩ := hJ
  refine vx_ofWH (cc := cL_isIn) (maxL := 4) (ret := (some .int)) (hh := [(0, 16, 19, 21)]) (by decide) rfl ?_
  intro p e s m args below meth c s₁ B9 hml hv
  obtain ⟨rfl, hA, hH⟩ := hv
  have hx := B9.exec
  have hb := B9.bytes
  have hr := B9.returns
  have hts := atoms_spec (ws := wsL_isIn) B9.pre
  have hown : s.vm.findClass RL = some m.cls := findClass_of_methodNamed B9.named
  have hlocks := B9.notSynchronized
  have htb : c.exceptionTable.toList = [⟨0, 16, 19, 21⟩] := vx_table (x := yL_isIn) B9 (hts (.codeWith yL_isIn cL_isIn 4 (some .int) [(0, 16, 19, 21)]) (by decide +kernel))
  have hS : va_S (fun q : Nat => base ≤ q) s.heap s.heap [] := va_S.rf
  have hl := lv_entry ([.ref x, .int its, .ref o9]) (n := 4) (Nat.le_of_ble_eq_true rfl)
  rw [lg_entry_eq]
  generalize (lg_sl ([.ref x, .int its, .ref o9]) ++ List.replicate (4 - (lg_sl ([.ref x, .int its, .ref o9])).length) Slot.unset).toArray = ls at hl ⊢
  have hl : lv_has ls 4 [(0, .ref x), (1, .int its), (2, .ref o9)] := hl
  have k_x := hR.1.1.1
  refine lv_aload_n hx hb dL_isIn_0 rfl (lv_at hl 2 rfl) ?_
  refine lv_iconst (v := 0) hx hb dL_isIn_1 (by decide) ?_
  refine lv_aload_n hx hb dL_isIn_2 rfl (lv_at hl 0 rfl) ?_
  refine lv_iload_n hx hb dL_isIn_3 rfl (lv_at hl 1 rfl) ?_
  refine z_xcalli (vx_runV (As := [.int its]) (rest := [.int 0, .ref o9]) ⟨hx, hb, hml, hown, hts⟩ (c5_isIn l hl9 D cy base w x ad B its hR hinv hinv2) (cwV 1 hts gL_isIn_X5_isIn rfl rfl rfl (by decide +kernel) ⟨Nat.le_of_ble_eq_true rfl, Nat.le_of_ble_eq_true rfl⟩) (z_preV hA hS hH (z_recv hA hH (zk0 k_x (by decide)) (zE_k6 k_x) (q := (RX5, TX5, 6)) rfl)) rfl rfl hl.1 rfl (lv_room (Nat.le_of_ble_eq_true rfl)) dL_isIn_4 ⟨Nat.le_of_ble_eq_true rfl, Nat.le_of_ble_eq_true rfl⟩) hS (fun E9 ce9 q9 u9 H locs hw9 hH hz9 hS hce9 hv9 hcl9 => ?_) (fun r9 u9 H locs hw9 hH hz9 hS => ?_)
  · obtain ⟨hthr, hu9⟩ := hw9
    rw [hu9] at hH
    obtain ⟨hc9, rfl⟩ := hthr
    refine vx_catch (name := zIob) hown [] ⟨0, 16, 19, 21⟩ [] htb (fun z9 h9 => nomatch h9) rfl (by decide) (hts (.classLink RL 21 zIob) (by decide +kernel)) (castable_self hcl9) hce9 hv9 hcl9 ?_
    refine W.eq (g2 := F0 m 19 ls [.ref q9]) rfl ?_
    refine lv_astore_n (lv' := [(3, .ref q9), (0, .ref x), (1, .int its), (2, .ref o9)]) hx hb dL_isIn_19 rfl hl (by decide) rfl (fun ls hl => ?_)
    refine lv_iconst (v := 1) hx hb dL_isIn_20 (by decide) ?_
    refine vx_ret ?_
    exact z_iret hx hb hr hlocks hH hS (Or.inr ⟨by rw [hc9]; decide, hc9.symm, rfl⟩) (by decide) (by decide) dL_isIn_21
  · obtain ⟨hc9, rfl, hRep9, hF9⟩ := hw9
    have hFo := hF9 o9 (Or.inr (Or.inr (Or.inr k_o)))
    refine lv_if_eq (tgt := 14) hx hb dL_isIn_7 (by decide) (fun c_1 => ?_) (fun c_1 => ?_)
    · refine lv_lconst (v := 0) hx hb dL_isIn_14 (by decide) ?_
      refine z_jast hx hb hA hH hS (zk0 (hFo.1.trans k_o) (by decide)) (zEn (zE_k14 (hFo.1.trans k_o)) (hFo.2.1.trans n_o)) 0 rfl (by decide) (by decide) (w' := zsJ u9 o9 0 (0 : Int64)) (zEn (zst_14 (w := u9) (hFo.1.trans k_o) _ _) (hFo.2.1.trans n_o)) (zsJ_oth u9 o9 0 _) (fun _ => rfl) dL_isIn_15 (fun H locs hH hS => ?_)
      refine lv_goto (tgt := 22) hx hb dL_isIn_16 (by decide) ?_
      refine lv_iconst (v := 0) hx hb dL_isIn_22 (by decide) ?_
      refine vx_ret ?_
      exact z_iret hx hb hr hlocks hH hS (Or.inl ⟨hc9, rfl, gRep hRep9, gFr_J hF9 _ _ _, (gJ _ _ _ _).trans (by simp [c_1])⟩) (by decide) (by decide) dL_isIn_23
    · refine lv_lconst (v := 1) hx hb dL_isIn_10 (by decide) ?_
      refine lv_goto (tgt := 15) hx hb dL_isIn_11 (by decide) ?_
      refine z_jast hx hb hA hH hS (zk0 (hFo.1.trans k_o) (by decide)) (zEn (zE_k14 (hFo.1.trans k_o)) (hFo.2.1.trans n_o)) 0 rfl (by decide) (by decide) (w' := zsJ u9 o9 0 (1 : Int64)) (zEn (zst_14 (w := u9) (hFo.1.trans k_o) _ _) (hFo.2.1.trans n_o)) (zsJ_oth u9 o9 0 _) (fun _ => rfl) dL_isIn_15 (fun H locs hH hS => ?_)
      refine lv_goto (tgt := 22) hx hb dL_isIn_16 (by decide) ?_
      refine lv_iconst (v := 0) hx hb dL_isIn_22 (by decide) ?_
      refine vx_ret ?_
      exact z_iret hx hb hr hlocks hH hS (Or.inl ⟨hc9, rfl, gRep hRep9, gFr_J hF9 _ _ _, (gJ _ _ _ _).trans (by simp [c_1])⟩) (by decide) (by decide) dL_isIn_23
set_option maxHeartbeats 4000000 in
set_option maxRecDepth 100000 in
theorem zL_regime (l : Launch) (hl9 : l.stackTraces = false) (D : va_G) (cy : Nat → ClassId) (base : Nat) (w : zW) (x : Nat) (o9 : Nat) (B : mB) (its : Int32) (k_o : zK w o9 = 14) (n_o : zN w o9 = 1) (hRep : Rep w x B) (hJ : mJ B) : vx_Met l yL_regime wsL_regime ({ frames := 8, cells := 8, slots := 100, locals := 133 }) (zPc D cy base (zH D cy base) [.ref x, .int its, .ref o9] w) (zQi base (zH D cy base) (fun (r0 : Int32) (u0 : zW) => ((cd_P B its) = 0 ∧ r0 = 0 ∧ Rep u0 x (B) ∧ gFr w u0 ∧ zJ u0 o9 0 = (an_of B 6 its).toInt64) ∨ (¬ (cd_P B its) = 0 ∧ r0 = (cd_P B its) ∧ u0 = w))) (zXC base (zH D cy base) (fun (_ : String) (_ : zW) => False)) 8 100 (fun q => base ≤ q) := by
  obtain ⟨ad, hR⟩ := hRep
  obtain ⟨hinv, hinv2, hinv3⟩ := hJ
  refine vx_ofWH (cc := cL_regime) (maxL := 4) (ret := (some .int)) (hh := [(0, 9, 12, 21)]) (by decide) rfl ?_
  intro p e s m args below meth c s₁ B9 hml hv
  obtain ⟨rfl, hA, hH⟩ := hv
  have hx := B9.exec
  have hb := B9.bytes
  have hr := B9.returns
  have hts := atoms_spec (ws := wsL_regime) B9.pre
  have hown : s.vm.findClass RL = some m.cls := findClass_of_methodNamed B9.named
  have hlocks := B9.notSynchronized
  have htb : c.exceptionTable.toList = [⟨0, 9, 12, 21⟩] := vx_table (x := yL_regime) B9 (hts (.codeWith yL_regime cL_regime 4 (some .int) [(0, 9, 12, 21)]) (by decide +kernel))
  have hS : va_S (fun q : Nat => base ≤ q) s.heap s.heap [] := va_S.rf
  have hl := lv_entry ([.ref x, .int its, .ref o9]) (n := 4) (Nat.le_of_ble_eq_true rfl)
  rw [lg_entry_eq]
  generalize (lg_sl ([.ref x, .int its, .ref o9]) ++ List.replicate (4 - (lg_sl ([.ref x, .int its, .ref o9])).length) Slot.unset).toArray = ls at hl ⊢
  have hl : lv_has ls 4 [(0, .ref x), (1, .int its), (2, .ref o9)] := hl
  have k_x := hR.1.1.1
  refine lv_aload_n hx hb dL_regime_0 rfl (lv_at hl 2 rfl) ?_
  refine lv_iconst (v := 0) hx hb dL_regime_1 (by decide) ?_
  refine lv_aload_n hx hb dL_regime_2 rfl (lv_at hl 0 rfl) ?_
  refine lv_iload_n hx hb dL_regime_3 rfl (lv_at hl 1 rfl) ?_
  refine z_xcalli (vx_runV (As := [.int its]) (rest := [.int 0, .ref o9]) ⟨hx, hb, hml, hown, hts⟩ (c5_regime l hl9 D cy base w x ad B its hR hinv hinv2) (cwV 1 hts gL_regime_X5_regime rfl rfl rfl (by decide +kernel) ⟨Nat.le_of_ble_eq_true rfl, Nat.le_of_ble_eq_true rfl⟩) (z_preV hA hS hH (z_recv hA hH (zk0 k_x (by decide)) (zE_k6 k_x) (q := (RX5, TX5, 6)) rfl)) rfl rfl hl.1 rfl (lv_room (Nat.le_of_ble_eq_true rfl)) dL_regime_4 ⟨Nat.le_of_ble_eq_true rfl, Nat.le_of_ble_eq_true rfl⟩) hS (fun E9 ce9 q9 u9 H locs hw9 hH hz9 hS hce9 hv9 hcl9 => ?_) (fun r9 u9 H locs hw9 hH hz9 hS => ?_)
  · obtain ⟨hthr, hu9⟩ := hw9
    rw [hu9] at hH
    obtain ⟨hc9, rfl⟩ := hthr
    refine vx_catch (name := zIob) hown [] ⟨0, 9, 12, 21⟩ [] htb (fun z9 h9 => nomatch h9) rfl (by decide) (hts (.classLink RL 21 zIob) (by decide +kernel)) (castable_self hcl9) hce9 hv9 hcl9 ?_
    refine W.eq (g2 := F0 m 12 ls [.ref q9]) rfl ?_
    refine lv_astore_n (lv' := [(3, .ref q9), (0, .ref x), (1, .int its), (2, .ref o9)]) hx hb dL_regime_12 rfl hl (by decide) rfl (fun ls hl => ?_)
    refine lv_iconst (v := 1) hx hb dL_regime_13 (by decide) ?_
    refine vx_ret ?_
    exact z_iret hx hb hr hlocks hH hS (Or.inr ⟨by rw [hc9]; decide, hc9.symm, rfl⟩) (by decide) (by decide) dL_regime_14
  · obtain ⟨hc9, rfl, hRep9, hF9⟩ := hw9
    have hFo := hF9 o9 (Or.inr (Or.inr (Or.inr k_o)))
    refine lv_i2l (v := ((an_of B 6 its)).toInt64) hx hb dL_regime_7 rfl ?_
    refine z_jast hx hb hA hH hS (zk0 (hFo.1.trans k_o) (by decide)) (zEn (zE_k14 (hFo.1.trans k_o)) (hFo.2.1.trans n_o)) 0 rfl (by decide) (by decide) (w' := zsJ u9 o9 0 (((an_of B 6 its)).toInt64)) (zEn (zst_14 (w := u9) (hFo.1.trans k_o) _ _) (hFo.2.1.trans n_o)) (zsJ_oth u9 o9 0 _) (fun _ => rfl) dL_regime_8 (fun H locs hH hS => ?_)
    refine lv_goto (tgt := 15) hx hb dL_regime_9 (by decide) ?_
    refine lv_iconst (v := 0) hx hb dL_regime_15 (by decide) ?_
    refine vx_ret ?_
    exact z_iret hx hb hr hlocks hH hS (Or.inl ⟨hc9, rfl, gRep hRep9, gFr_J hF9 _ _ _, gJ _ _ _ _⟩) (by decide) (by decide) dL_regime_16
set_option maxHeartbeats 4000000 in
set_option maxRecDepth 100000 in
theorem zL_papers (l : Launch) (hl9 : l.stackTraces = false) (D : va_G) (cy : Nat → ClassId) (base : Nat) (w : zW) (x : Nat) (o9 : Nat) (B : mB) (its : Int32) (lost : Int32) (k_o : zK w o9 = 14) (n_o : zN w o9 = 1) (hRep : Rep w x B) (hJ : mJ B) : vx_Met l yL_papers wsL_papers ({ frames := 8, cells := 8, slots := 100, locals := 135 }) (zPc D cy base (zH D cy base) [.ref x, .int its, .int lost, .ref o9] w) (zQi base (zH D cy base) (fun (r0 : Int32) (u0 : zW) => ((cd_P B its) = 0 ∧ r0 = 0 ∧ Rep u0 x (B) ∧ gFr w u0 ∧ zJ u0 o9 0 = (an_papers B its lost).toInt64) ∨ (¬ (cd_P B its) = 0 ∧ r0 = (cd_P B its) ∧ u0 = w))) (zXC base (zH D cy base) (fun (_ : String) (_ : zW) => False)) 8 100 (fun q => base ≤ q) := by
  obtain ⟨ad, hR⟩ := hRep
  obtain ⟨hinv, hinv2, hinv3⟩ := hJ
  refine vx_ofWH (cc := cL_papers) (maxL := 5) (ret := (some .int)) (hh := [(0, 10, 13, 21)]) (by decide) rfl ?_
  intro p e s m args below meth c s₁ B9 hml hv
  obtain ⟨rfl, hA, hH⟩ := hv
  have hx := B9.exec
  have hb := B9.bytes
  have hr := B9.returns
  have hts := atoms_spec (ws := wsL_papers) B9.pre
  have hown : s.vm.findClass RL = some m.cls := findClass_of_methodNamed B9.named
  have hlocks := B9.notSynchronized
  have htb : c.exceptionTable.toList = [⟨0, 10, 13, 21⟩] := vx_table (x := yL_papers) B9 (hts (.codeWith yL_papers cL_papers 5 (some .int) [(0, 10, 13, 21)]) (by decide +kernel))
  have hS : va_S (fun q : Nat => base ≤ q) s.heap s.heap [] := va_S.rf
  have hl := lv_entry ([.ref x, .int its, .int lost, .ref o9]) (n := 5) (Nat.le_of_ble_eq_true rfl)
  rw [lg_entry_eq]
  generalize (lg_sl ([.ref x, .int its, .int lost, .ref o9]) ++ List.replicate (5 - (lg_sl ([.ref x, .int its, .int lost, .ref o9])).length) Slot.unset).toArray = ls at hl ⊢
  have hl : lv_has ls 5 [(0, .ref x), (1, .int its), (2, .int lost), (3, .ref o9)] := hl
  have k_x := hR.1.1.1
  refine lv_aload_n hx hb dL_papers_0 rfl (lv_at hl 3 rfl) ?_
  refine lv_iconst (v := 0) hx hb dL_papers_1 (by decide) ?_
  refine lv_aload_n hx hb dL_papers_2 rfl (lv_at hl 0 rfl) ?_
  refine lv_iload_n hx hb dL_papers_3 rfl (lv_at hl 1 rfl) ?_
  refine lv_iload_n hx hb dL_papers_4 rfl (lv_at hl 2 rfl) ?_
  refine z_xcalli (vx_runV (As := [.int its, .int lost]) (rest := [.int 0, .ref o9]) ⟨hx, hb, hml, hown, hts⟩ (c5_papers l hl9 D cy base w x ad B its lost hR hinv hinv2) (cwV 2 hts gL_papers_X5_papers rfl rfl rfl (by decide +kernel) ⟨Nat.le_of_ble_eq_true rfl, Nat.le_of_ble_eq_true rfl⟩) (z_preV hA hS hH (z_recv hA hH (zk0 k_x (by decide)) (zE_k6 k_x) (q := (RX5, TX5, 6)) rfl)) rfl rfl hl.1 rfl (lv_room (Nat.le_of_ble_eq_true rfl)) dL_papers_5 ⟨Nat.le_of_ble_eq_true rfl, Nat.le_of_ble_eq_true rfl⟩) hS (fun E9 ce9 q9 u9 H locs hw9 hH hz9 hS hce9 hv9 hcl9 => ?_) (fun r9 u9 H locs hw9 hH hz9 hS => ?_)
  · obtain ⟨hthr, hu9⟩ := hw9
    rw [hu9] at hH
    obtain ⟨hc9, rfl⟩ := hthr
    refine vx_catch (name := zIob) hown [] ⟨0, 10, 13, 21⟩ [] htb (fun z9 h9 => nomatch h9) rfl (by decide) (hts (.classLink RL 21 zIob) (by decide +kernel)) (castable_self hcl9) hce9 hv9 hcl9 ?_
    refine W.eq (g2 := F0 m 13 ls [.ref q9]) rfl ?_
    refine lv_astore (lv' := [(4, .ref q9), (0, .ref x), (1, .int its), (2, .int lost), (3, .ref o9)]) hx hb dL_papers_13 hl (by decide) rfl (fun ls hl => ?_)
    refine lv_iconst (v := 1) hx hb dL_papers_15 (by decide) ?_
    refine vx_ret ?_
    exact z_iret hx hb hr hlocks hH hS (Or.inr ⟨by rw [hc9]; decide, hc9.symm, rfl⟩) (by decide) (by decide) dL_papers_16
  · obtain ⟨hc9, rfl, hRep9, hF9⟩ := hw9
    have hFo := hF9 o9 (Or.inr (Or.inr (Or.inr k_o)))
    refine lv_i2l (v := ((an_papers B its lost)).toInt64) hx hb dL_papers_8 rfl ?_
    refine z_jast hx hb hA hH hS (zk0 (hFo.1.trans k_o) (by decide)) (zEn (zE_k14 (hFo.1.trans k_o)) (hFo.2.1.trans n_o)) 0 rfl (by decide) (by decide) (w' := zsJ u9 o9 0 (((an_papers B its lost)).toInt64)) (zEn (zst_14 (w := u9) (hFo.1.trans k_o) _ _) (hFo.2.1.trans n_o)) (zsJ_oth u9 o9 0 _) (fun _ => rfl) dL_papers_9 (fun H locs hH hS => ?_)
    refine lv_goto (tgt := 17) hx hb dL_papers_10 (by decide) ?_
    refine lv_iconst (v := 0) hx hb dL_papers_17 (by decide) ?_
    refine vx_ret ?_
    exact z_iret hx hb hr hlocks hH hS (Or.inl ⟨hc9, rfl, gRep hRep9, gFr_J hF9 _ _ _, gJ _ _ _ _⟩) (by decide) (by decide) dL_papers_18
set_option maxHeartbeats 4000000 in
set_option maxRecDepth 100000 in
theorem zL_setTools (l : Launch) (hl9 : l.stackTraces = false) (D : va_G) (cy : Nat → ClassId) (base : Nat) (w : zW) (x : Nat) (o9 : Nat) (B : mB) (k9 : Int32) (n : Int32) (k_o : zK w o9 = 14) (n_o : zN w o9 = 1) (hRep : Rep w x B) (hJ : mJ B) : vx_Met l yL_setTools wsL_setTools ({ frames := 8, cells := 8, slots := 100, locals := 136 }) (zPc D cy base (zH D cy base) [.ref x, .int k9, .int n, .ref o9] w) (zQi base (zH D cy base) (fun (r0 : Int32) (u0 : zW) => ((cd_setTools B k9 n) = 0 ∧ r0 = 0 ∧ Rep u0 x (up_setTools B k9 n) ∧ gFr w u0 ∧ zJ u0 o9 0 = (an_setTools B k9).toInt64) ∨ (¬ (cd_setTools B k9 n) = 0 ∧ r0 = (cd_setTools B k9 n) ∧ u0 = w))) (zXC base (zH D cy base) (fun (_ : String) (_ : zW) => False)) 8 100 (fun q => base ≤ q) := by
  obtain ⟨ad, hR⟩ := hRep
  obtain ⟨hinv, hinv2, hinv3⟩ := hJ
  refine vx_ofWH (cc := cL_setTools) (maxL := 5) (ret := (some .int)) (hh := [(0, 10, 13, 21), (0, 10, 17, 13), (0, 10, 21, 15)]) (by decide) rfl ?_
  intro p e s m args below meth c s₁ B9 hml hv
  obtain ⟨rfl, hA, hH⟩ := hv
  have hx := B9.exec
  have hb := B9.bytes
  have hr := B9.returns
  have hts := atoms_spec (ws := wsL_setTools) B9.pre
  have hown : s.vm.findClass RL = some m.cls := findClass_of_methodNamed B9.named
  have hlocks := B9.notSynchronized
  have htb : c.exceptionTable.toList = [⟨0, 10, 13, 21⟩, ⟨0, 10, 17, 13⟩, ⟨0, 10, 21, 15⟩] := vx_table (x := yL_setTools) B9 (hts (.codeWith yL_setTools cL_setTools 5 (some .int) [(0, 10, 13, 21), (0, 10, 17, 13), (0, 10, 21, 15)]) (by decide +kernel))
  have hS : va_S (fun q : Nat => base ≤ q) s.heap s.heap [] := va_S.rf
  have hl := lv_entry ([.ref x, .int k9, .int n, .ref o9]) (n := 5) (Nat.le_of_ble_eq_true rfl)
  rw [lg_entry_eq]
  generalize (lg_sl ([.ref x, .int k9, .int n, .ref o9]) ++ List.replicate (5 - (lg_sl ([.ref x, .int k9, .int n, .ref o9])).length) Slot.unset).toArray = ls at hl ⊢
  have hl : lv_has ls 5 [(0, .ref x), (1, .int k9), (2, .int n), (3, .ref o9)] := hl
  have k_x := hR.1.1.1
  refine lv_aload_n hx hb dL_setTools_0 rfl (lv_at hl 3 rfl) ?_
  refine lv_iconst (v := 0) hx hb dL_setTools_1 (by decide) ?_
  refine lv_aload_n hx hb dL_setTools_2 rfl (lv_at hl 0 rfl) ?_
  refine lv_iload_n hx hb dL_setTools_3 rfl (lv_at hl 1 rfl) ?_
  refine lv_iload_n hx hb dL_setTools_4 rfl (lv_at hl 2 rfl) ?_
  refine z_xcalli (vx_runV (As := [.int k9, .int n]) (rest := [.int 0, .ref o9]) ⟨hx, hb, hml, hown, hts⟩ (c5_setTools l hl9 D cy base w x ad B k9 n hR hinv hinv2) (cwV 2 hts gL_setTools_X5_setTools rfl rfl rfl (by decide +kernel) ⟨Nat.le_of_ble_eq_true rfl, Nat.le_of_ble_eq_true rfl⟩) (z_preV hA hS hH (z_recv hA hH (zk0 k_x (by decide)) (zE_k6 k_x) (q := (RX5, TX5, 6)) rfl)) rfl rfl hl.1 rfl (lv_room (Nat.le_of_ble_eq_true rfl)) dL_setTools_5 ⟨Nat.le_of_ble_eq_true rfl, Nat.le_of_ble_eq_true rfl⟩) hS (fun E9 ce9 q9 u9 H locs hw9 hH hz9 hS hce9 hv9 hcl9 => ?_) (fun r9 u9 H locs hw9 hH hz9 hS => ?_)
  · obtain ⟨hthr, hu9⟩ := hw9
    rw [hu9] at hH
    rcases hthr with ⟨hc9, rfl⟩ | ⟨hc9, rfl⟩ | ⟨hc9, rfl⟩
    · refine vx_catch (name := zIob) hown [] ⟨0, 10, 13, 21⟩ [⟨0, 10, 17, 13⟩, ⟨0, 10, 21, 15⟩] htb (fun z9 h9 => nomatch h9) rfl (by decide) (hts (.classLink RL 21 zIob) (by decide +kernel)) (castable_self hcl9) hce9 hv9 hcl9 ?_
      refine W.eq (g2 := F0 m 13 ls [.ref q9]) rfl ?_
      refine lv_astore (lv' := [(4, .ref q9), (0, .ref x), (1, .int k9), (2, .int n), (3, .ref o9)]) hx hb dL_setTools_13 hl (by decide) rfl (fun ls hl => ?_)
      refine lv_iconst (v := 1) hx hb dL_setTools_15 (by decide) ?_
      refine vx_ret ?_
      exact z_iret hx hb hr hlocks hH hS (Or.inr ⟨by rw [hc9]; decide, hc9.symm, rfl⟩) (by decide) (by decide) dL_setTools_16
    · refine vx_catch (name := zIae) hown [⟨0, 10, 13, 21⟩] ⟨0, 10, 17, 13⟩ [⟨0, 10, 21, 15⟩] htb (by
        intro z9 h9
        simp only [List.mem_cons, List.not_mem_nil, or_false] at h9
        rcases h9 with rfl
        · exact Or.inr ⟨by decide, zIob, hts (.classLink RL 21 zIob) (by decide +kernel), hA.2.2.2.2.2.2.2.2.1⟩) rfl (by decide) (hts (.classLink RL 13 zIae) (by decide +kernel)) (castable_self hcl9) hce9 hv9 hcl9 ?_
      refine W.eq (g2 := F0 m 17 ls [.ref q9]) rfl ?_
      refine lv_astore (lv' := [(4, .ref q9), (0, .ref x), (1, .int k9), (2, .int n), (3, .ref o9)]) hx hb dL_setTools_17 hl (by decide) rfl (fun ls hl => ?_)
      refine lv_iconst (v := 2) hx hb dL_setTools_19 (by decide) ?_
      refine vx_ret ?_
      exact z_iret hx hb hr hlocks hH hS (Or.inr ⟨by rw [hc9]; decide, hc9.symm, rfl⟩) (by decide) (by decide) dL_setTools_20
    · refine vx_catch (name := zIse) hown [⟨0, 10, 13, 21⟩, ⟨0, 10, 17, 13⟩] ⟨0, 10, 21, 15⟩ [] htb (by
        intro z9 h9
        simp only [List.mem_cons, List.not_mem_nil, or_false] at h9
        rcases h9 with rfl | rfl
        · exact Or.inr ⟨by decide, zIob, hts (.classLink RL 21 zIob) (by decide +kernel), hA.2.2.2.2.2.2.1⟩
        · exact Or.inr ⟨by decide, zIae, hts (.classLink RL 13 zIae) (by decide +kernel), hA.2.2.2.2.2.2.2.1⟩) rfl (by decide) (hts (.classLink RL 15 zIse) (by decide +kernel)) (castable_self hcl9) hce9 hv9 hcl9 ?_
      refine W.eq (g2 := F0 m 21 ls [.ref q9]) rfl ?_
      refine lv_astore (lv' := [(4, .ref q9), (0, .ref x), (1, .int k9), (2, .int n), (3, .ref o9)]) hx hb dL_setTools_21 hl (by decide) rfl (fun ls hl => ?_)
      refine lv_iconst (v := 3) hx hb dL_setTools_23 (by decide) ?_
      refine vx_ret ?_
      exact z_iret hx hb hr hlocks hH hS (Or.inr ⟨by rw [hc9]; decide, hc9.symm, rfl⟩) (by decide) (by decide) dL_setTools_24
  · obtain ⟨hc9, rfl, hRep9, hF9⟩ := hw9
    have hFo := hF9 o9 (Or.inr (Or.inr (Or.inr k_o)))
    refine lv_i2l (v := ((an_setTools B k9)).toInt64) hx hb dL_setTools_8 rfl ?_
    refine z_jast hx hb hA hH hS (zk0 (hFo.1.trans k_o) (by decide)) (zEn (zE_k14 (hFo.1.trans k_o)) (hFo.2.1.trans n_o)) 0 rfl (by decide) (by decide) (w' := zsJ u9 o9 0 (((an_setTools B k9)).toInt64)) (zEn (zst_14 (w := u9) (hFo.1.trans k_o) _ _) (hFo.2.1.trans n_o)) (zsJ_oth u9 o9 0 _) (fun _ => rfl) dL_setTools_9 (fun H locs hH hS => ?_)
    refine lv_goto (tgt := 25) hx hb dL_setTools_10 (by decide) ?_
    refine lv_iconst (v := 0) hx hb dL_setTools_25 (by decide) ?_
    refine vx_ret ?_
    exact z_iret hx hb hr hlocks hH hS (Or.inl ⟨hc9, rfl, gRep hRep9, gFr_J hF9 _ _ _, gJ _ _ _ _⟩) (by decide) (by decide) dL_setTools_26
set_option maxHeartbeats 4000000 in
set_option maxRecDepth 100000 in
theorem zL_toolsOut (l : Launch) (hl9 : l.stackTraces = false) (D : va_G) (cy : Nat → ClassId) (base : Nat) (w : zW) (x : Nat) (o9 : Nat) (B : mB) (k9 : Int32) (k_o : zK w o9 = 14) (n_o : zN w o9 = 1) (hRep : Rep w x B) (hJ : mJ B) : vx_Met l yL_toolsOut wsL_toolsOut ({ frames := 8, cells := 8, slots := 100, locals := 133 }) (zPc D cy base (zH D cy base) [.ref x, .int k9, .ref o9] w) (zQi base (zH D cy base) (fun (r0 : Int32) (u0 : zW) => ((cd_K B k9) = 0 ∧ r0 = 0 ∧ Rep u0 x (B) ∧ gFr w u0 ∧ zJ u0 o9 0 = (an_toolsOut B k9).toInt64) ∨ (¬ (cd_K B k9) = 0 ∧ r0 = (cd_K B k9) ∧ u0 = w))) (zXC base (zH D cy base) (fun (_ : String) (_ : zW) => False)) 8 100 (fun q => base ≤ q) := by
  obtain ⟨ad, hR⟩ := hRep
  obtain ⟨hinv, hinv2, hinv3⟩ := hJ
  refine vx_ofWH (cc := cL_toolsOut) (maxL := 4) (ret := (some .int)) (hh := [(0, 9, 12, 21)]) (by decide) rfl ?_
  intro p e s m args below meth c s₁ B9 hml hv
  obtain ⟨rfl, hA, hH⟩ := hv
  have hx := B9.exec
  have hb := B9.bytes
  have hr := B9.returns
  have hts := atoms_spec (ws := wsL_toolsOut) B9.pre
  have hown : s.vm.findClass RL = some m.cls := findClass_of_methodNamed B9.named
  have hlocks := B9.notSynchronized
  have htb : c.exceptionTable.toList = [⟨0, 9, 12, 21⟩] := vx_table (x := yL_toolsOut) B9 (hts (.codeWith yL_toolsOut cL_toolsOut 4 (some .int) [(0, 9, 12, 21)]) (by decide +kernel))
  have hS : va_S (fun q : Nat => base ≤ q) s.heap s.heap [] := va_S.rf
  have hl := lv_entry ([.ref x, .int k9, .ref o9]) (n := 4) (Nat.le_of_ble_eq_true rfl)
  rw [lg_entry_eq]
  generalize (lg_sl ([.ref x, .int k9, .ref o9]) ++ List.replicate (4 - (lg_sl ([.ref x, .int k9, .ref o9])).length) Slot.unset).toArray = ls at hl ⊢
  have hl : lv_has ls 4 [(0, .ref x), (1, .int k9), (2, .ref o9)] := hl
  have k_x := hR.1.1.1
  refine lv_aload_n hx hb dL_toolsOut_0 rfl (lv_at hl 2 rfl) ?_
  refine lv_iconst (v := 0) hx hb dL_toolsOut_1 (by decide) ?_
  refine lv_aload_n hx hb dL_toolsOut_2 rfl (lv_at hl 0 rfl) ?_
  refine lv_iload_n hx hb dL_toolsOut_3 rfl (lv_at hl 1 rfl) ?_
  refine z_xcalli (vx_runV (As := [.int k9]) (rest := [.int 0, .ref o9]) ⟨hx, hb, hml, hown, hts⟩ (c5_toolsOut l hl9 D cy base w x ad B k9 hR hinv hinv2) (cwV 1 hts gL_toolsOut_X5_toolsOut rfl rfl rfl (by decide +kernel) ⟨Nat.le_of_ble_eq_true rfl, Nat.le_of_ble_eq_true rfl⟩) (z_preV hA hS hH (z_recv hA hH (zk0 k_x (by decide)) (zE_k6 k_x) (q := (RX5, TX5, 6)) rfl)) rfl rfl hl.1 rfl (lv_room (Nat.le_of_ble_eq_true rfl)) dL_toolsOut_4 ⟨Nat.le_of_ble_eq_true rfl, Nat.le_of_ble_eq_true rfl⟩) hS (fun E9 ce9 q9 u9 H locs hw9 hH hz9 hS hce9 hv9 hcl9 => ?_) (fun r9 u9 H locs hw9 hH hz9 hS => ?_)
  · obtain ⟨hthr, hu9⟩ := hw9
    rw [hu9] at hH
    obtain ⟨hc9, rfl⟩ := hthr
    refine vx_catch (name := zIob) hown [] ⟨0, 9, 12, 21⟩ [] htb (fun z9 h9 => nomatch h9) rfl (by decide) (hts (.classLink RL 21 zIob) (by decide +kernel)) (castable_self hcl9) hce9 hv9 hcl9 ?_
    refine W.eq (g2 := F0 m 12 ls [.ref q9]) rfl ?_
    refine lv_astore_n (lv' := [(3, .ref q9), (0, .ref x), (1, .int k9), (2, .ref o9)]) hx hb dL_toolsOut_12 rfl hl (by decide) rfl (fun ls hl => ?_)
    refine lv_iconst (v := 1) hx hb dL_toolsOut_13 (by decide) ?_
    refine vx_ret ?_
    exact z_iret hx hb hr hlocks hH hS (Or.inr ⟨by rw [hc9]; decide, hc9.symm, rfl⟩) (by decide) (by decide) dL_toolsOut_14
  · obtain ⟨hc9, rfl, hRep9, hF9⟩ := hw9
    have hFo := hF9 o9 (Or.inr (Or.inr (Or.inr k_o)))
    refine lv_i2l (v := ((an_toolsOut B k9)).toInt64) hx hb dL_toolsOut_7 rfl ?_
    refine z_jast hx hb hA hH hS (zk0 (hFo.1.trans k_o) (by decide)) (zEn (zE_k14 (hFo.1.trans k_o)) (hFo.2.1.trans n_o)) 0 rfl (by decide) (by decide) (w' := zsJ u9 o9 0 (((an_toolsOut B k9)).toInt64)) (zEn (zst_14 (w := u9) (hFo.1.trans k_o) _ _) (hFo.2.1.trans n_o)) (zsJ_oth u9 o9 0 _) (fun _ => rfl) dL_toolsOut_8 (fun H locs hH hS => ?_)
    refine lv_goto (tgt := 15) hx hb dL_toolsOut_9 (by decide) ?_
    refine lv_iconst (v := 0) hx hb dL_toolsOut_15 (by decide) ?_
    refine vx_ret ?_
    exact z_iret hx hb hr hlocks hH hS (Or.inl ⟨hc9, rfl, gRep hRep9, gFr_J hF9 _ _ _, gJ _ _ _ _⟩) (by decide) (by decide) dL_toolsOut_16
set_option maxHeartbeats 4000000 in
set_option maxRecDepth 100000 in
theorem zL_addOrder (l : Launch) (hl9 : l.stackTraces = false) (D : va_G) (cy : Nat → ClassId) (base : Nat) (w : zW) (x : Nat) (o9 : Nat) (B : mB) (s9 : Int32) (k9 : Int32) (w9 : Int32) (g9 : Int32) (k_o : zK w o9 = 14) (n_o : zN w o9 = 1) (hRep : Rep w x B) (hJ : mJ B) : vx_Met l yL_addOrder wsL_addOrder ({ frames := 8, cells := 8, slots := 100, locals := 138 }) (zPc D cy base (zH D cy base) [.ref x, .int s9, .int k9, .int w9, .int g9, .ref o9] w) (zQi base (zH D cy base) (fun (r0 : Int32) (u0 : zW) => ((cd_addOrder B s9 k9 w9 g9) = 0 ∧ r0 = 0 ∧ Rep u0 x (up_addOrder B s9 k9 w9 g9) ∧ gFr w u0 ∧ zJ u0 o9 0 = (an_addOrder B).toInt64) ∨ (¬ (cd_addOrder B s9 k9 w9 g9) = 0 ∧ r0 = (cd_addOrder B s9 k9 w9 g9) ∧ u0 = w))) (zXC base (zH D cy base) (fun (_ : String) (_ : zW) => False)) 8 100 (fun q => base ≤ q) := by
  obtain ⟨ad, hR⟩ := hRep
  obtain ⟨hinv, hinv2, hinv3⟩ := hJ
  refine vx_ofWH (cc := cL_addOrder) (maxL := 7) (ret := (some .int)) (hh := [(0, 14, 17, 21), (0, 14, 21, 13), (0, 14, 25, 15)]) (by decide) rfl ?_
  intro p e s m args below meth c s₁ B9 hml hv
  obtain ⟨rfl, hA, hH⟩ := hv
  have hx := B9.exec
  have hb := B9.bytes
  have hr := B9.returns
  have hts := atoms_spec (ws := wsL_addOrder) B9.pre
  have hown : s.vm.findClass RL = some m.cls := findClass_of_methodNamed B9.named
  have hlocks := B9.notSynchronized
  have htb : c.exceptionTable.toList = [⟨0, 14, 17, 21⟩, ⟨0, 14, 21, 13⟩, ⟨0, 14, 25, 15⟩] := vx_table (x := yL_addOrder) B9 (hts (.codeWith yL_addOrder cL_addOrder 7 (some .int) [(0, 14, 17, 21), (0, 14, 21, 13), (0, 14, 25, 15)]) (by decide +kernel))
  have hS : va_S (fun q : Nat => base ≤ q) s.heap s.heap [] := va_S.rf
  have hl := lv_entry ([.ref x, .int s9, .int k9, .int w9, .int g9, .ref o9]) (n := 7) (Nat.le_of_ble_eq_true rfl)
  rw [lg_entry_eq]
  generalize (lg_sl ([.ref x, .int s9, .int k9, .int w9, .int g9, .ref o9]) ++ List.replicate (7 - (lg_sl ([.ref x, .int s9, .int k9, .int w9, .int g9, .ref o9])).length) Slot.unset).toArray = ls at hl ⊢
  have hl : lv_has ls 7 [(0, .ref x), (1, .int s9), (2, .int k9), (3, .int w9), (4, .int g9), (5, .ref o9)] := hl
  have k_x := hR.1.1.1
  refine lv_aload hx hb dL_addOrder_0 (lv_at hl 5 rfl) ?_
  refine lv_iconst (v := 0) hx hb dL_addOrder_2 (by decide) ?_
  refine lv_aload_n hx hb dL_addOrder_3 rfl (lv_at hl 0 rfl) ?_
  refine lv_iload_n hx hb dL_addOrder_4 rfl (lv_at hl 1 rfl) ?_
  refine lv_iload_n hx hb dL_addOrder_5 rfl (lv_at hl 2 rfl) ?_
  refine lv_iload_n hx hb dL_addOrder_6 rfl (lv_at hl 3 rfl) ?_
  refine lv_iload hx hb dL_addOrder_7 (lv_at hl 4 rfl) ?_
  refine z_xcalli (vx_runV (As := [.int s9, .int k9, .int w9, .int g9]) (rest := [.int 0, .ref o9]) ⟨hx, hb, hml, hown, hts⟩ (c5_addOrder l hl9 D cy base w x ad B s9 k9 w9 g9 hR hinv hinv2) (cwV 4 hts gL_addOrder_X5_addOrder rfl rfl rfl (by decide +kernel) ⟨Nat.le_of_ble_eq_true rfl, Nat.le_of_ble_eq_true rfl⟩) (z_preV hA hS hH (z_recv hA hH (zk0 k_x (by decide)) (zE_k6 k_x) (q := (RX5, TX5, 6)) rfl)) rfl rfl hl.1 rfl (lv_room (Nat.le_of_ble_eq_true rfl)) dL_addOrder_9 ⟨Nat.le_of_ble_eq_true rfl, Nat.le_of_ble_eq_true rfl⟩) hS (fun E9 ce9 q9 u9 H locs hw9 hH hz9 hS hce9 hv9 hcl9 => ?_) (fun r9 u9 H locs hw9 hH hz9 hS => ?_)
  · obtain ⟨hthr, hu9⟩ := hw9
    rw [hu9] at hH
    rcases hthr with ⟨hc9, rfl⟩ | ⟨hc9, rfl⟩ | ⟨hc9, rfl⟩
    · refine vx_catch (name := zIob) hown [] ⟨0, 14, 17, 21⟩ [⟨0, 14, 21, 13⟩, ⟨0, 14, 25, 15⟩] htb (fun z9 h9 => nomatch h9) rfl (by decide) (hts (.classLink RL 21 zIob) (by decide +kernel)) (castable_self hcl9) hce9 hv9 hcl9 ?_
      refine W.eq (g2 := F0 m 17 ls [.ref q9]) rfl ?_
      refine lv_astore (lv' := [(6, .ref q9), (0, .ref x), (1, .int s9), (2, .int k9), (3, .int w9), (4, .int g9), (5, .ref o9)]) hx hb dL_addOrder_17 hl (by decide) rfl (fun ls hl => ?_)
      refine lv_iconst (v := 1) hx hb dL_addOrder_19 (by decide) ?_
      refine vx_ret ?_
      exact z_iret hx hb hr hlocks hH hS (Or.inr ⟨by rw [hc9]; decide, hc9.symm, rfl⟩) (by decide) (by decide) dL_addOrder_20
    · refine vx_catch (name := zIae) hown [⟨0, 14, 17, 21⟩] ⟨0, 14, 21, 13⟩ [⟨0, 14, 25, 15⟩] htb (by
        intro z9 h9
        simp only [List.mem_cons, List.not_mem_nil, or_false] at h9
        rcases h9 with rfl
        · exact Or.inr ⟨by decide, zIob, hts (.classLink RL 21 zIob) (by decide +kernel), hA.2.2.2.2.2.2.2.2.1⟩) rfl (by decide) (hts (.classLink RL 13 zIae) (by decide +kernel)) (castable_self hcl9) hce9 hv9 hcl9 ?_
      refine W.eq (g2 := F0 m 21 ls [.ref q9]) rfl ?_
      refine lv_astore (lv' := [(6, .ref q9), (0, .ref x), (1, .int s9), (2, .int k9), (3, .int w9), (4, .int g9), (5, .ref o9)]) hx hb dL_addOrder_21 hl (by decide) rfl (fun ls hl => ?_)
      refine lv_iconst (v := 2) hx hb dL_addOrder_23 (by decide) ?_
      refine vx_ret ?_
      exact z_iret hx hb hr hlocks hH hS (Or.inr ⟨by rw [hc9]; decide, hc9.symm, rfl⟩) (by decide) (by decide) dL_addOrder_24
    · refine vx_catch (name := zIse) hown [⟨0, 14, 17, 21⟩, ⟨0, 14, 21, 13⟩] ⟨0, 14, 25, 15⟩ [] htb (by
        intro z9 h9
        simp only [List.mem_cons, List.not_mem_nil, or_false] at h9
        rcases h9 with rfl | rfl
        · exact Or.inr ⟨by decide, zIob, hts (.classLink RL 21 zIob) (by decide +kernel), hA.2.2.2.2.2.2.1⟩
        · exact Or.inr ⟨by decide, zIae, hts (.classLink RL 13 zIae) (by decide +kernel), hA.2.2.2.2.2.2.2.1⟩) rfl (by decide) (hts (.classLink RL 15 zIse) (by decide +kernel)) (castable_self hcl9) hce9 hv9 hcl9 ?_
      refine W.eq (g2 := F0 m 25 ls [.ref q9]) rfl ?_
      refine lv_astore (lv' := [(6, .ref q9), (0, .ref x), (1, .int s9), (2, .int k9), (3, .int w9), (4, .int g9), (5, .ref o9)]) hx hb dL_addOrder_25 hl (by decide) rfl (fun ls hl => ?_)
      refine lv_iconst (v := 3) hx hb dL_addOrder_27 (by decide) ?_
      refine vx_ret ?_
      exact z_iret hx hb hr hlocks hH hS (Or.inr ⟨by rw [hc9]; decide, hc9.symm, rfl⟩) (by decide) (by decide) dL_addOrder_28
  · obtain ⟨hc9, rfl, hRep9, hF9⟩ := hw9
    have hFo := hF9 o9 (Or.inr (Or.inr (Or.inr k_o)))
    refine lv_i2l (v := ((an_addOrder B)).toInt64) hx hb dL_addOrder_12 rfl ?_
    refine z_jast hx hb hA hH hS (zk0 (hFo.1.trans k_o) (by decide)) (zEn (zE_k14 (hFo.1.trans k_o)) (hFo.2.1.trans n_o)) 0 rfl (by decide) (by decide) (w' := zsJ u9 o9 0 (((an_addOrder B)).toInt64)) (zEn (zst_14 (w := u9) (hFo.1.trans k_o) _ _) (hFo.2.1.trans n_o)) (zsJ_oth u9 o9 0 _) (fun _ => rfl) dL_addOrder_13 (fun H locs hH hS => ?_)
    refine lv_goto (tgt := 29) hx hb dL_addOrder_14 (by decide) ?_
    refine lv_iconst (v := 0) hx hb dL_addOrder_29 (by decide) ?_
    refine vx_ret ?_
    exact z_iret hx hb hr hlocks hH hS (Or.inl ⟨hc9, rfl, gRep hRep9, gFr_J hF9 _ _ _, gJ _ _ _ _⟩) (by decide) (by decide) dL_addOrder_30
set_option maxHeartbeats 4000000 in
set_option maxRecDepth 100000 in
theorem zL_assign (l : Launch) (hl9 : l.stackTraces = false) (D : va_G) (cy : Nat → ClassId) (base : Nat) (w : zW) (x : Nat) (o9 : Nat) (B : mB) (its : Int32) (o : Int32) (k_o : zK w o9 = 14) (n_o : zN w o9 = 1) (hRep : Rep w x B) (hJ : mJ B) : vx_Met l yL_assign wsL_assign ({ frames := 8, cells := 8, slots := 100, locals := 136 }) (zPc D cy base (zH D cy base) [.ref x, .int its, .int o, .ref o9] w) (zQi base (zH D cy base) (fun (r0 : Int32) (u0 : zW) => ((cd_assign B its o) = 0 ∧ r0 = 0 ∧ Rep u0 x (up_assign B its o) ∧ gFr w u0 ∧ zJ u0 o9 0 = (an_assign B its o).toInt64) ∨ (¬ (cd_assign B its o) = 0 ∧ r0 = (cd_assign B its o) ∧ u0 = w))) (zXC base (zH D cy base) (fun (_ : String) (_ : zW) => False)) 8 100 (fun q => base ≤ q) := by
  obtain ⟨ad, hR⟩ := hRep
  obtain ⟨hinv, hinv2, hinv3⟩ := hJ
  refine vx_ofWH (cc := cL_assign) (maxL := 5) (ret := (some .int)) (hh := [(0, 10, 13, 21), (0, 10, 17, 15)]) (by decide) rfl ?_
  intro p e s m args below meth c s₁ B9 hml hv
  obtain ⟨rfl, hA, hH⟩ := hv
  have hx := B9.exec
  have hb := B9.bytes
  have hr := B9.returns
  have hts := atoms_spec (ws := wsL_assign) B9.pre
  have hown : s.vm.findClass RL = some m.cls := findClass_of_methodNamed B9.named
  have hlocks := B9.notSynchronized
  have htb : c.exceptionTable.toList = [⟨0, 10, 13, 21⟩, ⟨0, 10, 17, 15⟩] := vx_table (x := yL_assign) B9 (hts (.codeWith yL_assign cL_assign 5 (some .int) [(0, 10, 13, 21), (0, 10, 17, 15)]) (by decide +kernel))
  have hS : va_S (fun q : Nat => base ≤ q) s.heap s.heap [] := va_S.rf
  have hl := lv_entry ([.ref x, .int its, .int o, .ref o9]) (n := 5) (Nat.le_of_ble_eq_true rfl)
  rw [lg_entry_eq]
  generalize (lg_sl ([.ref x, .int its, .int o, .ref o9]) ++ List.replicate (5 - (lg_sl ([.ref x, .int its, .int o, .ref o9])).length) Slot.unset).toArray = ls at hl ⊢
  have hl : lv_has ls 5 [(0, .ref x), (1, .int its), (2, .int o), (3, .ref o9)] := hl
  have k_x := hR.1.1.1
  refine lv_aload_n hx hb dL_assign_0 rfl (lv_at hl 3 rfl) ?_
  refine lv_iconst (v := 0) hx hb dL_assign_1 (by decide) ?_
  refine lv_aload_n hx hb dL_assign_2 rfl (lv_at hl 0 rfl) ?_
  refine lv_iload_n hx hb dL_assign_3 rfl (lv_at hl 1 rfl) ?_
  refine lv_iload_n hx hb dL_assign_4 rfl (lv_at hl 2 rfl) ?_
  refine z_xcalli (vx_runV (As := [.int its, .int o]) (rest := [.int 0, .ref o9]) ⟨hx, hb, hml, hown, hts⟩ (c5_assign l hl9 D cy base w x ad B its o hR hinv hinv2) (cwV 2 hts gL_assign_X5_assign rfl rfl rfl (by decide +kernel) ⟨Nat.le_of_ble_eq_true rfl, Nat.le_of_ble_eq_true rfl⟩) (z_preV hA hS hH (z_recv hA hH (zk0 k_x (by decide)) (zE_k6 k_x) (q := (RX5, TX5, 6)) rfl)) rfl rfl hl.1 rfl (lv_room (Nat.le_of_ble_eq_true rfl)) dL_assign_5 ⟨Nat.le_of_ble_eq_true rfl, Nat.le_of_ble_eq_true rfl⟩) hS (fun E9 ce9 q9 u9 H locs hw9 hH hz9 hS hce9 hv9 hcl9 => ?_) (fun r9 u9 H locs hw9 hH hz9 hS => ?_)
  · obtain ⟨hthr, hu9⟩ := hw9
    rw [hu9] at hH
    rcases hthr with ⟨hc9, rfl⟩ | ⟨hc9, rfl⟩
    · refine vx_catch (name := zIob) hown [] ⟨0, 10, 13, 21⟩ [⟨0, 10, 17, 15⟩] htb (fun z9 h9 => nomatch h9) rfl (by decide) (hts (.classLink RL 21 zIob) (by decide +kernel)) (castable_self hcl9) hce9 hv9 hcl9 ?_
      refine W.eq (g2 := F0 m 13 ls [.ref q9]) rfl ?_
      refine lv_astore (lv' := [(4, .ref q9), (0, .ref x), (1, .int its), (2, .int o), (3, .ref o9)]) hx hb dL_assign_13 hl (by decide) rfl (fun ls hl => ?_)
      refine lv_iconst (v := 1) hx hb dL_assign_15 (by decide) ?_
      refine vx_ret ?_
      exact z_iret hx hb hr hlocks hH hS (Or.inr ⟨by rw [hc9]; decide, hc9.symm, rfl⟩) (by decide) (by decide) dL_assign_16
    · refine vx_catch (name := zIse) hown [⟨0, 10, 13, 21⟩] ⟨0, 10, 17, 15⟩ [] htb (by
        intro z9 h9
        simp only [List.mem_cons, List.not_mem_nil, or_false] at h9
        rcases h9 with rfl
        · exact Or.inr ⟨by decide, zIob, hts (.classLink RL 21 zIob) (by decide +kernel), hA.2.2.2.2.2.2.1⟩) rfl (by decide) (hts (.classLink RL 15 zIse) (by decide +kernel)) (castable_self hcl9) hce9 hv9 hcl9 ?_
      refine W.eq (g2 := F0 m 17 ls [.ref q9]) rfl ?_
      refine lv_astore (lv' := [(4, .ref q9), (0, .ref x), (1, .int its), (2, .int o), (3, .ref o9)]) hx hb dL_assign_17 hl (by decide) rfl (fun ls hl => ?_)
      refine lv_iconst (v := 2) hx hb dL_assign_19 (by decide) ?_
      refine vx_ret ?_
      exact z_iret hx hb hr hlocks hH hS (Or.inr ⟨by rw [hc9]; decide, hc9.symm, rfl⟩) (by decide) (by decide) dL_assign_20
  · obtain ⟨hc9, rfl, hRep9, hF9⟩ := hw9
    have hFo := hF9 o9 (Or.inr (Or.inr (Or.inr k_o)))
    refine lv_i2l (v := ((an_assign B its o)).toInt64) hx hb dL_assign_8 rfl ?_
    refine z_jast hx hb hA hH hS (zk0 (hFo.1.trans k_o) (by decide)) (zEn (zE_k14 (hFo.1.trans k_o)) (hFo.2.1.trans n_o)) 0 rfl (by decide) (by decide) (w' := zsJ u9 o9 0 (((an_assign B its o)).toInt64)) (zEn (zst_14 (w := u9) (hFo.1.trans k_o) _ _) (hFo.2.1.trans n_o)) (zsJ_oth u9 o9 0 _) (fun _ => rfl) dL_assign_9 (fun H locs hH hS => ?_)
    refine lv_goto (tgt := 21) hx hb dL_assign_10 (by decide) ?_
    refine lv_iconst (v := 0) hx hb dL_assign_21 (by decide) ?_
    refine vx_ret ?_
    exact z_iret hx hb hr hlocks hH hS (Or.inl ⟨hc9, rfl, gRep hRep9, gFr_J hF9 _ _ _, gJ _ _ _ _⟩) (by decide) (by decide) dL_assign_22
set_option maxHeartbeats 4000000 in
set_option maxRecDepth 100000 in
theorem zL_takeOff (l : Launch) (hl9 : l.stackTraces = false) (D : va_G) (cy : Nat → ClassId) (base : Nat) (w : zW) (x : Nat) (o9 : Nat) (B : mB) (its : Int32) (k_o : zK w o9 = 14) (n_o : zN w o9 = 1) (hRep : Rep w x B) (hJ : mJ B) : vx_Met l yL_takeOff wsL_takeOff ({ frames := 8, cells := 8, slots := 100, locals := 135 }) (zPc D cy base (zH D cy base) [.ref x, .int its, .ref o9] w) (zQi base (zH D cy base) (fun (r0 : Int32) (u0 : zW) => ((cd_takeOff B its) = 0 ∧ r0 = 0 ∧ Rep u0 x (up_takeOff B its) ∧ gFr w u0 ∧ zJ u0 o9 0 = (an_of B 11 its).toInt64) ∨ (¬ (cd_takeOff B its) = 0 ∧ r0 = (cd_takeOff B its) ∧ u0 = w))) (zXC base (zH D cy base) (fun (_ : String) (_ : zW) => False)) 8 100 (fun q => base ≤ q) := by
  obtain ⟨ad, hR⟩ := hRep
  obtain ⟨hinv, hinv2, hinv3⟩ := hJ
  refine vx_ofWH (cc := cL_takeOff) (maxL := 4) (ret := (some .int)) (hh := [(0, 9, 12, 21), (0, 9, 15, 15)]) (by decide) rfl ?_
  intro p e s m args below meth c s₁ B9 hml hv
  obtain ⟨rfl, hA, hH⟩ := hv
  have hx := B9.exec
  have hb := B9.bytes
  have hr := B9.returns
  have hts := atoms_spec (ws := wsL_takeOff) B9.pre
  have hown : s.vm.findClass RL = some m.cls := findClass_of_methodNamed B9.named
  have hlocks := B9.notSynchronized
  have htb : c.exceptionTable.toList = [⟨0, 9, 12, 21⟩, ⟨0, 9, 15, 15⟩] := vx_table (x := yL_takeOff) B9 (hts (.codeWith yL_takeOff cL_takeOff 4 (some .int) [(0, 9, 12, 21), (0, 9, 15, 15)]) (by decide +kernel))
  have hS : va_S (fun q : Nat => base ≤ q) s.heap s.heap [] := va_S.rf
  have hl := lv_entry ([.ref x, .int its, .ref o9]) (n := 4) (Nat.le_of_ble_eq_true rfl)
  rw [lg_entry_eq]
  generalize (lg_sl ([.ref x, .int its, .ref o9]) ++ List.replicate (4 - (lg_sl ([.ref x, .int its, .ref o9])).length) Slot.unset).toArray = ls at hl ⊢
  have hl : lv_has ls 4 [(0, .ref x), (1, .int its), (2, .ref o9)] := hl
  have k_x := hR.1.1.1
  refine lv_aload_n hx hb dL_takeOff_0 rfl (lv_at hl 2 rfl) ?_
  refine lv_iconst (v := 0) hx hb dL_takeOff_1 (by decide) ?_
  refine lv_aload_n hx hb dL_takeOff_2 rfl (lv_at hl 0 rfl) ?_
  refine lv_iload_n hx hb dL_takeOff_3 rfl (lv_at hl 1 rfl) ?_
  refine z_xcalli (vx_runV (As := [.int its]) (rest := [.int 0, .ref o9]) ⟨hx, hb, hml, hown, hts⟩ (c5_takeOff l hl9 D cy base w x ad B its hR hinv hinv2) (cwV 1 hts gL_takeOff_X5_takeOff rfl rfl rfl (by decide +kernel) ⟨Nat.le_of_ble_eq_true rfl, Nat.le_of_ble_eq_true rfl⟩) (z_preV hA hS hH (z_recv hA hH (zk0 k_x (by decide)) (zE_k6 k_x) (q := (RX5, TX5, 6)) rfl)) rfl rfl hl.1 rfl (lv_room (Nat.le_of_ble_eq_true rfl)) dL_takeOff_4 ⟨Nat.le_of_ble_eq_true rfl, Nat.le_of_ble_eq_true rfl⟩) hS (fun E9 ce9 q9 u9 H locs hw9 hH hz9 hS hce9 hv9 hcl9 => ?_) (fun r9 u9 H locs hw9 hH hz9 hS => ?_)
  · obtain ⟨hthr, hu9⟩ := hw9
    rw [hu9] at hH
    rcases hthr with ⟨hc9, rfl⟩ | ⟨hc9, rfl⟩
    · refine vx_catch (name := zIob) hown [] ⟨0, 9, 12, 21⟩ [⟨0, 9, 15, 15⟩] htb (fun z9 h9 => nomatch h9) rfl (by decide) (hts (.classLink RL 21 zIob) (by decide +kernel)) (castable_self hcl9) hce9 hv9 hcl9 ?_
      refine W.eq (g2 := F0 m 12 ls [.ref q9]) rfl ?_
      refine lv_astore_n (lv' := [(3, .ref q9), (0, .ref x), (1, .int its), (2, .ref o9)]) hx hb dL_takeOff_12 rfl hl (by decide) rfl (fun ls hl => ?_)
      refine lv_iconst (v := 1) hx hb dL_takeOff_13 (by decide) ?_
      refine vx_ret ?_
      exact z_iret hx hb hr hlocks hH hS (Or.inr ⟨by rw [hc9]; decide, hc9.symm, rfl⟩) (by decide) (by decide) dL_takeOff_14
    · refine vx_catch (name := zIse) hown [⟨0, 9, 12, 21⟩] ⟨0, 9, 15, 15⟩ [] htb (by
        intro z9 h9
        simp only [List.mem_cons, List.not_mem_nil, or_false] at h9
        rcases h9 with rfl
        · exact Or.inr ⟨by decide, zIob, hts (.classLink RL 21 zIob) (by decide +kernel), hA.2.2.2.2.2.2.1⟩) rfl (by decide) (hts (.classLink RL 15 zIse) (by decide +kernel)) (castable_self hcl9) hce9 hv9 hcl9 ?_
      refine W.eq (g2 := F0 m 15 ls [.ref q9]) rfl ?_
      refine lv_astore_n (lv' := [(3, .ref q9), (0, .ref x), (1, .int its), (2, .ref o9)]) hx hb dL_takeOff_15 rfl hl (by decide) rfl (fun ls hl => ?_)
      refine lv_iconst (v := 2) hx hb dL_takeOff_16 (by decide) ?_
      refine vx_ret ?_
      exact z_iret hx hb hr hlocks hH hS (Or.inr ⟨by rw [hc9]; decide, hc9.symm, rfl⟩) (by decide) (by decide) dL_takeOff_17
  · obtain ⟨hc9, rfl, hRep9, hF9⟩ := hw9
    have hFo := hF9 o9 (Or.inr (Or.inr (Or.inr k_o)))
    refine lv_i2l (v := ((an_of B 11 its)).toInt64) hx hb dL_takeOff_7 rfl ?_
    refine z_jast hx hb hA hH hS (zk0 (hFo.1.trans k_o) (by decide)) (zEn (zE_k14 (hFo.1.trans k_o)) (hFo.2.1.trans n_o)) 0 rfl (by decide) (by decide) (w' := zsJ u9 o9 0 (((an_of B 11 its)).toInt64)) (zEn (zst_14 (w := u9) (hFo.1.trans k_o) _ _) (hFo.2.1.trans n_o)) (zsJ_oth u9 o9 0 _) (fun _ => rfl) dL_takeOff_8 (fun H locs hH hS => ?_)
    refine lv_goto (tgt := 18) hx hb dL_takeOff_9 (by decide) ?_
    refine lv_iconst (v := 0) hx hb dL_takeOff_18 (by decide) ?_
    refine vx_ret ?_
    exact z_iret hx hb hr hlocks hH hS (Or.inl ⟨hc9, rfl, gRep hRep9, gFr_J hF9 _ _ _, gJ _ _ _ _⟩) (by decide) (by decide) dL_takeOff_19
set_option maxHeartbeats 4000000 in
set_option maxRecDepth 100000 in
theorem zL_orderOf (l : Launch) (hl9 : l.stackTraces = false) (D : va_G) (cy : Nat → ClassId) (base : Nat) (w : zW) (x : Nat) (o9 : Nat) (B : mB) (its : Int32) (k_o : zK w o9 = 14) (n_o : zN w o9 = 1) (hRep : Rep w x B) (hJ : mJ B) : vx_Met l yL_orderOf wsL_orderOf ({ frames := 8, cells := 8, slots := 100, locals := 134 }) (zPc D cy base (zH D cy base) [.ref x, .int its, .ref o9] w) (zQi base (zH D cy base) (fun (r0 : Int32) (u0 : zW) => ((cd_P B its) = 0 ∧ r0 = 0 ∧ Rep u0 x (B) ∧ gFr w u0 ∧ zJ u0 o9 0 = (an_of B 11 its).toInt64) ∨ (¬ (cd_P B its) = 0 ∧ r0 = (cd_P B its) ∧ u0 = w))) (zXC base (zH D cy base) (fun (_ : String) (_ : zW) => False)) 8 100 (fun q => base ≤ q) := by
  obtain ⟨ad, hR⟩ := hRep
  obtain ⟨hinv, hinv2, hinv3⟩ := hJ
  refine vx_ofWH (cc := cL_orderOf) (maxL := 4) (ret := (some .int)) (hh := [(0, 9, 12, 21)]) (by decide) rfl ?_
  intro p e s m args below meth c s₁ B9 hml hv
  obtain ⟨rfl, hA, hH⟩ := hv
  have hx := B9.exec
  have hb := B9.bytes
  have hr := B9.returns
  have hts := atoms_spec (ws := wsL_orderOf) B9.pre
  have hown : s.vm.findClass RL = some m.cls := findClass_of_methodNamed B9.named
  have hlocks := B9.notSynchronized
  have htb : c.exceptionTable.toList = [⟨0, 9, 12, 21⟩] := vx_table (x := yL_orderOf) B9 (hts (.codeWith yL_orderOf cL_orderOf 4 (some .int) [(0, 9, 12, 21)]) (by decide +kernel))
  have hS : va_S (fun q : Nat => base ≤ q) s.heap s.heap [] := va_S.rf
  have hl := lv_entry ([.ref x, .int its, .ref o9]) (n := 4) (Nat.le_of_ble_eq_true rfl)
  rw [lg_entry_eq]
  generalize (lg_sl ([.ref x, .int its, .ref o9]) ++ List.replicate (4 - (lg_sl ([.ref x, .int its, .ref o9])).length) Slot.unset).toArray = ls at hl ⊢
  have hl : lv_has ls 4 [(0, .ref x), (1, .int its), (2, .ref o9)] := hl
  have k_x := hR.1.1.1
  refine lv_aload_n hx hb dL_orderOf_0 rfl (lv_at hl 2 rfl) ?_
  refine lv_iconst (v := 0) hx hb dL_orderOf_1 (by decide) ?_
  refine lv_aload_n hx hb dL_orderOf_2 rfl (lv_at hl 0 rfl) ?_
  refine lv_iload_n hx hb dL_orderOf_3 rfl (lv_at hl 1 rfl) ?_
  refine z_xcalli (vx_runV (As := [.int its]) (rest := [.int 0, .ref o9]) ⟨hx, hb, hml, hown, hts⟩ (c5_orderOf l hl9 D cy base w x ad B its hR hinv hinv2) (cwV 1 hts gL_orderOf_X5_orderOf rfl rfl rfl (by decide +kernel) ⟨Nat.le_of_ble_eq_true rfl, Nat.le_of_ble_eq_true rfl⟩) (z_preV hA hS hH (z_recv hA hH (zk0 k_x (by decide)) (zE_k6 k_x) (q := (RX5, TX5, 6)) rfl)) rfl rfl hl.1 rfl (lv_room (Nat.le_of_ble_eq_true rfl)) dL_orderOf_4 ⟨Nat.le_of_ble_eq_true rfl, Nat.le_of_ble_eq_true rfl⟩) hS (fun E9 ce9 q9 u9 H locs hw9 hH hz9 hS hce9 hv9 hcl9 => ?_) (fun r9 u9 H locs hw9 hH hz9 hS => ?_)
  · obtain ⟨hthr, hu9⟩ := hw9
    rw [hu9] at hH
    obtain ⟨hc9, rfl⟩ := hthr
    refine vx_catch (name := zIob) hown [] ⟨0, 9, 12, 21⟩ [] htb (fun z9 h9 => nomatch h9) rfl (by decide) (hts (.classLink RL 21 zIob) (by decide +kernel)) (castable_self hcl9) hce9 hv9 hcl9 ?_
    refine W.eq (g2 := F0 m 12 ls [.ref q9]) rfl ?_
    refine lv_astore_n (lv' := [(3, .ref q9), (0, .ref x), (1, .int its), (2, .ref o9)]) hx hb dL_orderOf_12 rfl hl (by decide) rfl (fun ls hl => ?_)
    refine lv_iconst (v := 1) hx hb dL_orderOf_13 (by decide) ?_
    refine vx_ret ?_
    exact z_iret hx hb hr hlocks hH hS (Or.inr ⟨by rw [hc9]; decide, hc9.symm, rfl⟩) (by decide) (by decide) dL_orderOf_14
  · obtain ⟨hc9, rfl, hRep9, hF9⟩ := hw9
    have hFo := hF9 o9 (Or.inr (Or.inr (Or.inr k_o)))
    refine lv_i2l (v := ((an_of B 11 its)).toInt64) hx hb dL_orderOf_7 rfl ?_
    refine z_jast hx hb hA hH hS (zk0 (hFo.1.trans k_o) (by decide)) (zEn (zE_k14 (hFo.1.trans k_o)) (hFo.2.1.trans n_o)) 0 rfl (by decide) (by decide) (w' := zsJ u9 o9 0 (((an_of B 11 its)).toInt64)) (zEn (zst_14 (w := u9) (hFo.1.trans k_o) _ _) (hFo.2.1.trans n_o)) (zsJ_oth u9 o9 0 _) (fun _ => rfl) dL_orderOf_8 (fun H locs hH hS => ?_)
    refine lv_goto (tgt := 15) hx hb dL_orderOf_9 (by decide) ?_
    refine lv_iconst (v := 0) hx hb dL_orderOf_15 (by decide) ?_
    refine vx_ret ?_
    exact z_iret hx hb hr hlocks hH hS (Or.inl ⟨hc9, rfl, gRep hRep9, gFr_J hF9 _ _ _, gJ _ _ _ _⟩) (by decide) (by decide) dL_orderOf_16
set_option maxHeartbeats 4000000 in
set_option maxRecDepth 100000 in
theorem zL_left (l : Launch) (hl9 : l.stackTraces = false) (D : va_G) (cy : Nat → ClassId) (base : Nat) (w : zW) (x : Nat) (o9 : Nat) (B : mB) (o : Int32) (k_o : zK w o9 = 14) (n_o : zN w o9 = 1) (hRep : Rep w x B) (hJ : mJ B) : vx_Met l yL_left wsL_left ({ frames := 8, cells := 8, slots := 100, locals := 133 }) (zPc D cy base (zH D cy base) [.ref x, .int o, .ref o9] w) (zQi base (zH D cy base) (fun (r0 : Int32) (u0 : zW) => ((cd_O B o) = 0 ∧ r0 = 0 ∧ Rep u0 x (B) ∧ gFr w u0 ∧ zJ u0 o9 0 = (an_of B 25 o).toInt64) ∨ (¬ (cd_O B o) = 0 ∧ r0 = (cd_O B o) ∧ u0 = w))) (zXC base (zH D cy base) (fun (_ : String) (_ : zW) => False)) 8 100 (fun q => base ≤ q) := by
  obtain ⟨ad, hR⟩ := hRep
  obtain ⟨hinv, hinv2, hinv3⟩ := hJ
  refine vx_ofWH (cc := cL_left) (maxL := 4) (ret := (some .int)) (hh := [(0, 9, 12, 21)]) (by decide) rfl ?_
  intro p e s m args below meth c s₁ B9 hml hv
  obtain ⟨rfl, hA, hH⟩ := hv
  have hx := B9.exec
  have hb := B9.bytes
  have hr := B9.returns
  have hts := atoms_spec (ws := wsL_left) B9.pre
  have hown : s.vm.findClass RL = some m.cls := findClass_of_methodNamed B9.named
  have hlocks := B9.notSynchronized
  have htb : c.exceptionTable.toList = [⟨0, 9, 12, 21⟩] := vx_table (x := yL_left) B9 (hts (.codeWith yL_left cL_left 4 (some .int) [(0, 9, 12, 21)]) (by decide +kernel))
  have hS : va_S (fun q : Nat => base ≤ q) s.heap s.heap [] := va_S.rf
  have hl := lv_entry ([.ref x, .int o, .ref o9]) (n := 4) (Nat.le_of_ble_eq_true rfl)
  rw [lg_entry_eq]
  generalize (lg_sl ([.ref x, .int o, .ref o9]) ++ List.replicate (4 - (lg_sl ([.ref x, .int o, .ref o9])).length) Slot.unset).toArray = ls at hl ⊢
  have hl : lv_has ls 4 [(0, .ref x), (1, .int o), (2, .ref o9)] := hl
  have k_x := hR.1.1.1
  refine lv_aload_n hx hb dL_left_0 rfl (lv_at hl 2 rfl) ?_
  refine lv_iconst (v := 0) hx hb dL_left_1 (by decide) ?_
  refine lv_aload_n hx hb dL_left_2 rfl (lv_at hl 0 rfl) ?_
  refine lv_iload_n hx hb dL_left_3 rfl (lv_at hl 1 rfl) ?_
  refine z_xcalli (vx_runV (As := [.int o]) (rest := [.int 0, .ref o9]) ⟨hx, hb, hml, hown, hts⟩ (c5_left l hl9 D cy base w x ad B o hR hinv hinv2) (cwV 1 hts gL_left_X5_left rfl rfl rfl (by decide +kernel) ⟨Nat.le_of_ble_eq_true rfl, Nat.le_of_ble_eq_true rfl⟩) (z_preV hA hS hH (z_recv hA hH (zk0 k_x (by decide)) (zE_k6 k_x) (q := (RX5, TX5, 6)) rfl)) rfl rfl hl.1 rfl (lv_room (Nat.le_of_ble_eq_true rfl)) dL_left_4 ⟨Nat.le_of_ble_eq_true rfl, Nat.le_of_ble_eq_true rfl⟩) hS (fun E9 ce9 q9 u9 H locs hw9 hH hz9 hS hce9 hv9 hcl9 => ?_) (fun r9 u9 H locs hw9 hH hz9 hS => ?_)
  · obtain ⟨hthr, hu9⟩ := hw9
    rw [hu9] at hH
    obtain ⟨hc9, rfl⟩ := hthr
    refine vx_catch (name := zIob) hown [] ⟨0, 9, 12, 21⟩ [] htb (fun z9 h9 => nomatch h9) rfl (by decide) (hts (.classLink RL 21 zIob) (by decide +kernel)) (castable_self hcl9) hce9 hv9 hcl9 ?_
    refine W.eq (g2 := F0 m 12 ls [.ref q9]) rfl ?_
    refine lv_astore_n (lv' := [(3, .ref q9), (0, .ref x), (1, .int o), (2, .ref o9)]) hx hb dL_left_12 rfl hl (by decide) rfl (fun ls hl => ?_)
    refine lv_iconst (v := 1) hx hb dL_left_13 (by decide) ?_
    refine vx_ret ?_
    exact z_iret hx hb hr hlocks hH hS (Or.inr ⟨by rw [hc9]; decide, hc9.symm, rfl⟩) (by decide) (by decide) dL_left_14
  · obtain ⟨hc9, rfl, hRep9, hF9⟩ := hw9
    have hFo := hF9 o9 (Or.inr (Or.inr (Or.inr k_o)))
    refine lv_i2l (v := ((an_of B 25 o)).toInt64) hx hb dL_left_7 rfl ?_
    refine z_jast hx hb hA hH hS (zk0 (hFo.1.trans k_o) (by decide)) (zEn (zE_k14 (hFo.1.trans k_o)) (hFo.2.1.trans n_o)) 0 rfl (by decide) (by decide) (w' := zsJ u9 o9 0 (((an_of B 25 o)).toInt64)) (zEn (zst_14 (w := u9) (hFo.1.trans k_o) _ _) (hFo.2.1.trans n_o)) (zsJ_oth u9 o9 0 _) (fun _ => rfl) dL_left_8 (fun H locs hH hS => ?_)
    refine lv_goto (tgt := 15) hx hb dL_left_9 (by decide) ?_
    refine lv_iconst (v := 0) hx hb dL_left_15 (by decide) ?_
    refine vx_ret ?_
    exact z_iret hx hb hr hlocks hH hS (Or.inl ⟨hc9, rfl, gRep hRep9, gFr_J hF9 _ _ _, gJ _ _ _ _⟩) (by decide) (by decide) dL_left_16
set_option maxHeartbeats 4000000 in
set_option maxRecDepth 100000 in
theorem zL_account (l : Launch) (hl9 : l.stackTraces = false) (D : va_G) (cy : Nat → ClassId) (base : Nat) (w : zW) (x : Nat) (o9 : Nat) (B : mB) (its : Int32) (a : Int32) (k_o : zK w o9 = 14) (n_o : zN w o9 = 1) (hRep : Rep w x B) (hJ : mJ B) : vx_Met l yL_account wsL_account ({ frames := 8, cells := 8, slots := 100, locals := 135 }) (zPc D cy base (zH D cy base) [.ref x, .int its, .int a, .ref o9] w) (zQi base (zH D cy base) (fun (r0 : Int32) (u0 : zW) => ((cd_account B its a) = 0 ∧ r0 = 0 ∧ Rep u0 x (B) ∧ gFr w u0 ∧ zJ u0 o9 0 = (an_account B its a).toInt64) ∨ (¬ (cd_account B its a) = 0 ∧ r0 = (cd_account B its a) ∧ u0 = w))) (zXC base (zH D cy base) (fun (_ : String) (_ : zW) => False)) 8 100 (fun q => base ≤ q) := by
  obtain ⟨ad, hR⟩ := hRep
  obtain ⟨hinv, hinv2, hinv3⟩ := hJ
  refine vx_ofWH (cc := cL_account) (maxL := 5) (ret := (some .int)) (hh := [(0, 10, 13, 21)]) (by decide) rfl ?_
  intro p e s m args below meth c s₁ B9 hml hv
  obtain ⟨rfl, hA, hH⟩ := hv
  have hx := B9.exec
  have hb := B9.bytes
  have hr := B9.returns
  have hts := atoms_spec (ws := wsL_account) B9.pre
  have hown : s.vm.findClass RL = some m.cls := findClass_of_methodNamed B9.named
  have hlocks := B9.notSynchronized
  have htb : c.exceptionTable.toList = [⟨0, 10, 13, 21⟩] := vx_table (x := yL_account) B9 (hts (.codeWith yL_account cL_account 5 (some .int) [(0, 10, 13, 21)]) (by decide +kernel))
  have hS : va_S (fun q : Nat => base ≤ q) s.heap s.heap [] := va_S.rf
  have hl := lv_entry ([.ref x, .int its, .int a, .ref o9]) (n := 5) (Nat.le_of_ble_eq_true rfl)
  rw [lg_entry_eq]
  generalize (lg_sl ([.ref x, .int its, .int a, .ref o9]) ++ List.replicate (5 - (lg_sl ([.ref x, .int its, .int a, .ref o9])).length) Slot.unset).toArray = ls at hl ⊢
  have hl : lv_has ls 5 [(0, .ref x), (1, .int its), (2, .int a), (3, .ref o9)] := hl
  have k_x := hR.1.1.1
  refine lv_aload_n hx hb dL_account_0 rfl (lv_at hl 3 rfl) ?_
  refine lv_iconst (v := 0) hx hb dL_account_1 (by decide) ?_
  refine lv_aload_n hx hb dL_account_2 rfl (lv_at hl 0 rfl) ?_
  refine lv_iload_n hx hb dL_account_3 rfl (lv_at hl 1 rfl) ?_
  refine lv_iload_n hx hb dL_account_4 rfl (lv_at hl 2 rfl) ?_
  refine z_xcalli (vx_runV (As := [.int its, .int a]) (rest := [.int 0, .ref o9]) ⟨hx, hb, hml, hown, hts⟩ (c5_account l hl9 D cy base w x ad B its a hR hinv hinv2) (cwV 2 hts gL_account_X5_account rfl rfl rfl (by decide +kernel) ⟨Nat.le_of_ble_eq_true rfl, Nat.le_of_ble_eq_true rfl⟩) (z_preV hA hS hH (z_recv hA hH (zk0 k_x (by decide)) (zE_k6 k_x) (q := (RX5, TX5, 6)) rfl)) rfl rfl hl.1 rfl (lv_room (Nat.le_of_ble_eq_true rfl)) dL_account_5 ⟨Nat.le_of_ble_eq_true rfl, Nat.le_of_ble_eq_true rfl⟩) hS (fun E9 ce9 q9 u9 H locs hw9 hH hz9 hS hce9 hv9 hcl9 => ?_) (fun r9 u9 H locs hw9 hH hz9 hS => ?_)
  · obtain ⟨hthr, hu9⟩ := hw9
    rw [hu9] at hH
    obtain ⟨hc9, rfl⟩ := hthr
    refine vx_catch (name := zIob) hown [] ⟨0, 10, 13, 21⟩ [] htb (fun z9 h9 => nomatch h9) rfl (by decide) (hts (.classLink RL 21 zIob) (by decide +kernel)) (castable_self hcl9) hce9 hv9 hcl9 ?_
    refine W.eq (g2 := F0 m 13 ls [.ref q9]) rfl ?_
    refine lv_astore (lv' := [(4, .ref q9), (0, .ref x), (1, .int its), (2, .int a), (3, .ref o9)]) hx hb dL_account_13 hl (by decide) rfl (fun ls hl => ?_)
    refine lv_iconst (v := 1) hx hb dL_account_15 (by decide) ?_
    refine vx_ret ?_
    exact z_iret hx hb hr hlocks hH hS (Or.inr ⟨by rw [hc9]; decide, hc9.symm, rfl⟩) (by decide) (by decide) dL_account_16
  · obtain ⟨hc9, rfl, hRep9, hF9⟩ := hw9
    have hFo := hF9 o9 (Or.inr (Or.inr (Or.inr k_o)))
    refine lv_i2l (v := ((an_account B its a)).toInt64) hx hb dL_account_8 rfl ?_
    refine z_jast hx hb hA hH hS (zk0 (hFo.1.trans k_o) (by decide)) (zEn (zE_k14 (hFo.1.trans k_o)) (hFo.2.1.trans n_o)) 0 rfl (by decide) (by decide) (w' := zsJ u9 o9 0 (((an_account B its a)).toInt64)) (zEn (zst_14 (w := u9) (hFo.1.trans k_o) _ _) (hFo.2.1.trans n_o)) (zsJ_oth u9 o9 0 _) (fun _ => rfl) dL_account_9 (fun H locs hH hS => ?_)
    refine lv_goto (tgt := 17) hx hb dL_account_10 (by decide) ?_
    refine lv_iconst (v := 0) hx hb dL_account_17 (by decide) ?_
    refine vx_ret ?_
    exact z_iret hx hb hr hlocks hH hS (Or.inl ⟨hc9, rfl, gRep hRep9, gFr_J hF9 _ _ _, gJ _ _ _ _⟩) (by decide) (by decide) dL_account_18
set_option maxHeartbeats 4000000 in
set_option maxRecDepth 100000 in
theorem zL_buy (l : Launch) (hl9 : l.stackTraces = false) (D : va_G) (cy : Nat → ClassId) (base : Nat) (w : zW) (x : Nat) (o9 : Nat) (B : mB) (its : Int32) (a : Int32) (k_o : zK w o9 = 14) (n_o : zN w o9 = 1) (hRep : Rep w x B) (hJ : mJ B) : vx_Met l yL_buy wsL_buy ({ frames := 8, cells := 8, slots := 100, locals := 136 }) (zPc D cy base (zH D cy base) [.ref x, .int its, .int a, .ref o9] w) (zQi base (zH D cy base) (fun (r0 : Int32) (u0 : zW) => ((cd_buy B its a) = 0 ∧ r0 = 0 ∧ Rep u0 x (up_buy B its a) ∧ gFr w u0 ∧ zJ u0 o9 0 = (an_buy B its a).toInt64) ∨ (¬ (cd_buy B its a) = 0 ∧ r0 = (cd_buy B its a) ∧ u0 = w))) (zXC base (zH D cy base) (fun (_ : String) (_ : zW) => False)) 8 100 (fun q => base ≤ q) := by
  obtain ⟨ad, hR⟩ := hRep
  obtain ⟨hinv, hinv2, hinv3⟩ := hJ
  refine vx_ofWH (cc := cL_buy) (maxL := 5) (ret := (some .int)) (hh := [(0, 10, 13, 21), (0, 10, 17, 13), (0, 10, 21, 15)]) (by decide) rfl ?_
  intro p e s m args below meth c s₁ B9 hml hv
  obtain ⟨rfl, hA, hH⟩ := hv
  have hx := B9.exec
  have hb := B9.bytes
  have hr := B9.returns
  have hts := atoms_spec (ws := wsL_buy) B9.pre
  have hown : s.vm.findClass RL = some m.cls := findClass_of_methodNamed B9.named
  have hlocks := B9.notSynchronized
  have htb : c.exceptionTable.toList = [⟨0, 10, 13, 21⟩, ⟨0, 10, 17, 13⟩, ⟨0, 10, 21, 15⟩] := vx_table (x := yL_buy) B9 (hts (.codeWith yL_buy cL_buy 5 (some .int) [(0, 10, 13, 21), (0, 10, 17, 13), (0, 10, 21, 15)]) (by decide +kernel))
  have hS : va_S (fun q : Nat => base ≤ q) s.heap s.heap [] := va_S.rf
  have hl := lv_entry ([.ref x, .int its, .int a, .ref o9]) (n := 5) (Nat.le_of_ble_eq_true rfl)
  rw [lg_entry_eq]
  generalize (lg_sl ([.ref x, .int its, .int a, .ref o9]) ++ List.replicate (5 - (lg_sl ([.ref x, .int its, .int a, .ref o9])).length) Slot.unset).toArray = ls at hl ⊢
  have hl : lv_has ls 5 [(0, .ref x), (1, .int its), (2, .int a), (3, .ref o9)] := hl
  have k_x := hR.1.1.1
  refine lv_aload_n hx hb dL_buy_0 rfl (lv_at hl 3 rfl) ?_
  refine lv_iconst (v := 0) hx hb dL_buy_1 (by decide) ?_
  refine lv_aload_n hx hb dL_buy_2 rfl (lv_at hl 0 rfl) ?_
  refine lv_iload_n hx hb dL_buy_3 rfl (lv_at hl 1 rfl) ?_
  refine lv_iload_n hx hb dL_buy_4 rfl (lv_at hl 2 rfl) ?_
  refine z_xcalli (vx_runV (As := [.int its, .int a]) (rest := [.int 0, .ref o9]) ⟨hx, hb, hml, hown, hts⟩ (c5_buy l hl9 D cy base w x ad B its a hR hinv hinv2) (cwV 2 hts gL_buy_X5_buy rfl rfl rfl (by decide +kernel) ⟨Nat.le_of_ble_eq_true rfl, Nat.le_of_ble_eq_true rfl⟩) (z_preV hA hS hH (z_recv hA hH (zk0 k_x (by decide)) (zE_k6 k_x) (q := (RX5, TX5, 6)) rfl)) rfl rfl hl.1 rfl (lv_room (Nat.le_of_ble_eq_true rfl)) dL_buy_5 ⟨Nat.le_of_ble_eq_true rfl, Nat.le_of_ble_eq_true rfl⟩) hS (fun E9 ce9 q9 u9 H locs hw9 hH hz9 hS hce9 hv9 hcl9 => ?_) (fun r9 u9 H locs hw9 hH hz9 hS => ?_)
  · obtain ⟨hthr, hu9⟩ := hw9
    rw [hu9] at hH
    rcases hthr with ⟨hc9, rfl⟩ | ⟨hc9, rfl⟩ | ⟨hc9, rfl⟩
    · refine vx_catch (name := zIob) hown [] ⟨0, 10, 13, 21⟩ [⟨0, 10, 17, 13⟩, ⟨0, 10, 21, 15⟩] htb (fun z9 h9 => nomatch h9) rfl (by decide) (hts (.classLink RL 21 zIob) (by decide +kernel)) (castable_self hcl9) hce9 hv9 hcl9 ?_
      refine W.eq (g2 := F0 m 13 ls [.ref q9]) rfl ?_
      refine lv_astore (lv' := [(4, .ref q9), (0, .ref x), (1, .int its), (2, .int a), (3, .ref o9)]) hx hb dL_buy_13 hl (by decide) rfl (fun ls hl => ?_)
      refine lv_iconst (v := 1) hx hb dL_buy_15 (by decide) ?_
      refine vx_ret ?_
      exact z_iret hx hb hr hlocks hH hS (Or.inr ⟨by rw [hc9]; decide, hc9.symm, rfl⟩) (by decide) (by decide) dL_buy_16
    · refine vx_catch (name := zIae) hown [⟨0, 10, 13, 21⟩] ⟨0, 10, 17, 13⟩ [⟨0, 10, 21, 15⟩] htb (by
        intro z9 h9
        simp only [List.mem_cons, List.not_mem_nil, or_false] at h9
        rcases h9 with rfl
        · exact Or.inr ⟨by decide, zIob, hts (.classLink RL 21 zIob) (by decide +kernel), hA.2.2.2.2.2.2.2.2.1⟩) rfl (by decide) (hts (.classLink RL 13 zIae) (by decide +kernel)) (castable_self hcl9) hce9 hv9 hcl9 ?_
      refine W.eq (g2 := F0 m 17 ls [.ref q9]) rfl ?_
      refine lv_astore (lv' := [(4, .ref q9), (0, .ref x), (1, .int its), (2, .int a), (3, .ref o9)]) hx hb dL_buy_17 hl (by decide) rfl (fun ls hl => ?_)
      refine lv_iconst (v := 2) hx hb dL_buy_19 (by decide) ?_
      refine vx_ret ?_
      exact z_iret hx hb hr hlocks hH hS (Or.inr ⟨by rw [hc9]; decide, hc9.symm, rfl⟩) (by decide) (by decide) dL_buy_20
    · refine vx_catch (name := zIse) hown [⟨0, 10, 13, 21⟩, ⟨0, 10, 17, 13⟩] ⟨0, 10, 21, 15⟩ [] htb (by
        intro z9 h9
        simp only [List.mem_cons, List.not_mem_nil, or_false] at h9
        rcases h9 with rfl | rfl
        · exact Or.inr ⟨by decide, zIob, hts (.classLink RL 21 zIob) (by decide +kernel), hA.2.2.2.2.2.2.1⟩
        · exact Or.inr ⟨by decide, zIae, hts (.classLink RL 13 zIae) (by decide +kernel), hA.2.2.2.2.2.2.2.1⟩) rfl (by decide) (hts (.classLink RL 15 zIse) (by decide +kernel)) (castable_self hcl9) hce9 hv9 hcl9 ?_
      refine W.eq (g2 := F0 m 21 ls [.ref q9]) rfl ?_
      refine lv_astore (lv' := [(4, .ref q9), (0, .ref x), (1, .int its), (2, .int a), (3, .ref o9)]) hx hb dL_buy_21 hl (by decide) rfl (fun ls hl => ?_)
      refine lv_iconst (v := 3) hx hb dL_buy_23 (by decide) ?_
      refine vx_ret ?_
      exact z_iret hx hb hr hlocks hH hS (Or.inr ⟨by rw [hc9]; decide, hc9.symm, rfl⟩) (by decide) (by decide) dL_buy_24
  · obtain ⟨hc9, rfl, hRep9, hF9⟩ := hw9
    have hFo := hF9 o9 (Or.inr (Or.inr (Or.inr k_o)))
    refine lv_i2l (v := ((an_buy B its a)).toInt64) hx hb dL_buy_8 rfl ?_
    refine z_jast hx hb hA hH hS (zk0 (hFo.1.trans k_o) (by decide)) (zEn (zE_k14 (hFo.1.trans k_o)) (hFo.2.1.trans n_o)) 0 rfl (by decide) (by decide) (w' := zsJ u9 o9 0 (((an_buy B its a)).toInt64)) (zEn (zst_14 (w := u9) (hFo.1.trans k_o) _ _) (hFo.2.1.trans n_o)) (zsJ_oth u9 o9 0 _) (fun _ => rfl) dL_buy_9 (fun H locs hH hS => ?_)
    refine lv_goto (tgt := 25) hx hb dL_buy_10 (by decide) ?_
    refine lv_iconst (v := 0) hx hb dL_buy_25 (by decide) ?_
    refine vx_ret ?_
    exact z_iret hx hb hr hlocks hH hS (Or.inl ⟨hc9, rfl, gRep hRep9, gFr_J hF9 _ _ _, gJ _ _ _ _⟩) (by decide) (by decide) dL_buy_26
set_option maxHeartbeats 4000000 in
set_option maxRecDepth 100000 in
theorem zL_limit (l : Launch) (hl9 : l.stackTraces = false) (D : va_G) (cy : Nat → ClassId) (base : Nat) (w : zW) (x : Nat) (o9 : Nat) (B : mB) (its : Int32) (k_o : zK w o9 = 14) (n_o : zN w o9 = 1) (hRep : Rep w x B) (hJ : mJ B) : vx_Met l yL_limit wsL_limit ({ frames := 8, cells := 8, slots := 100, locals := 133 }) (zPc D cy base (zH D cy base) [.ref x, .int its, .ref o9] w) (zQi base (zH D cy base) (fun (r0 : Int32) (u0 : zW) => ((cd_P B its) = 0 ∧ r0 = 0 ∧ Rep u0 x (B) ∧ gFr w u0 ∧ zJ u0 o9 0 = (an_limit B its).toInt64) ∨ (¬ (cd_P B its) = 0 ∧ r0 = (cd_P B its) ∧ u0 = w))) (zXC base (zH D cy base) (fun (_ : String) (_ : zW) => False)) 8 100 (fun q => base ≤ q) := by
  obtain ⟨ad, hR⟩ := hRep
  obtain ⟨hinv, hinv2, hinv3⟩ := hJ
  refine vx_ofWH (cc := cL_limit) (maxL := 4) (ret := (some .int)) (hh := [(0, 9, 12, 21)]) (by decide) rfl ?_
  intro p e s m args below meth c s₁ B9 hml hv
  obtain ⟨rfl, hA, hH⟩ := hv
  have hx := B9.exec
  have hb := B9.bytes
  have hr := B9.returns
  have hts := atoms_spec (ws := wsL_limit) B9.pre
  have hown : s.vm.findClass RL = some m.cls := findClass_of_methodNamed B9.named
  have hlocks := B9.notSynchronized
  have htb : c.exceptionTable.toList = [⟨0, 9, 12, 21⟩] := vx_table (x := yL_limit) B9 (hts (.codeWith yL_limit cL_limit 4 (some .int) [(0, 9, 12, 21)]) (by decide +kernel))
  have hS : va_S (fun q : Nat => base ≤ q) s.heap s.heap [] := va_S.rf
  have hl := lv_entry ([.ref x, .int its, .ref o9]) (n := 4) (Nat.le_of_ble_eq_true rfl)
  rw [lg_entry_eq]
  generalize (lg_sl ([.ref x, .int its, .ref o9]) ++ List.replicate (4 - (lg_sl ([.ref x, .int its, .ref o9])).length) Slot.unset).toArray = ls at hl ⊢
  have hl : lv_has ls 4 [(0, .ref x), (1, .int its), (2, .ref o9)] := hl
  have k_x := hR.1.1.1
  refine lv_aload_n hx hb dL_limit_0 rfl (lv_at hl 2 rfl) ?_
  refine lv_iconst (v := 0) hx hb dL_limit_1 (by decide) ?_
  refine lv_aload_n hx hb dL_limit_2 rfl (lv_at hl 0 rfl) ?_
  refine lv_iload_n hx hb dL_limit_3 rfl (lv_at hl 1 rfl) ?_
  refine z_xcalli (vx_runV (As := [.int its]) (rest := [.int 0, .ref o9]) ⟨hx, hb, hml, hown, hts⟩ (c5_limit l hl9 D cy base w x ad B its hR hinv hinv2) (cwV 1 hts gL_limit_X5_limit rfl rfl rfl (by decide +kernel) ⟨Nat.le_of_ble_eq_true rfl, Nat.le_of_ble_eq_true rfl⟩) (z_preV hA hS hH (z_recv hA hH (zk0 k_x (by decide)) (zE_k6 k_x) (q := (RX5, TX5, 6)) rfl)) rfl rfl hl.1 rfl (lv_room (Nat.le_of_ble_eq_true rfl)) dL_limit_4 ⟨Nat.le_of_ble_eq_true rfl, Nat.le_of_ble_eq_true rfl⟩) hS (fun E9 ce9 q9 u9 H locs hw9 hH hz9 hS hce9 hv9 hcl9 => ?_) (fun r9 u9 H locs hw9 hH hz9 hS => ?_)
  · obtain ⟨hthr, hu9⟩ := hw9
    rw [hu9] at hH
    obtain ⟨hc9, rfl⟩ := hthr
    refine vx_catch (name := zIob) hown [] ⟨0, 9, 12, 21⟩ [] htb (fun z9 h9 => nomatch h9) rfl (by decide) (hts (.classLink RL 21 zIob) (by decide +kernel)) (castable_self hcl9) hce9 hv9 hcl9 ?_
    refine W.eq (g2 := F0 m 12 ls [.ref q9]) rfl ?_
    refine lv_astore_n (lv' := [(3, .ref q9), (0, .ref x), (1, .int its), (2, .ref o9)]) hx hb dL_limit_12 rfl hl (by decide) rfl (fun ls hl => ?_)
    refine lv_iconst (v := 1) hx hb dL_limit_13 (by decide) ?_
    refine vx_ret ?_
    exact z_iret hx hb hr hlocks hH hS (Or.inr ⟨by rw [hc9]; decide, hc9.symm, rfl⟩) (by decide) (by decide) dL_limit_14
  · obtain ⟨hc9, rfl, hRep9, hF9⟩ := hw9
    have hFo := hF9 o9 (Or.inr (Or.inr (Or.inr k_o)))
    refine lv_i2l (v := ((an_limit B its)).toInt64) hx hb dL_limit_7 rfl ?_
    refine z_jast hx hb hA hH hS (zk0 (hFo.1.trans k_o) (by decide)) (zEn (zE_k14 (hFo.1.trans k_o)) (hFo.2.1.trans n_o)) 0 rfl (by decide) (by decide) (w' := zsJ u9 o9 0 (((an_limit B its)).toInt64)) (zEn (zst_14 (w := u9) (hFo.1.trans k_o) _ _) (hFo.2.1.trans n_o)) (zsJ_oth u9 o9 0 _) (fun _ => rfl) dL_limit_8 (fun H locs hH hS => ?_)
    refine lv_goto (tgt := 15) hx hb dL_limit_9 (by decide) ?_
    refine lv_iconst (v := 0) hx hb dL_limit_15 (by decide) ?_
    refine vx_ret ?_
    exact z_iret hx hb hr hlocks hH hS (Or.inl ⟨hc9, rfl, gRep hRep9, gFr_J hF9 _ _ _, gJ _ _ _ _⟩) (by decide) (by decide) dL_limit_16
set_option maxHeartbeats 4000000 in
set_option maxRecDepth 100000 in
theorem zL_paidOut (l : Launch) (hl9 : l.stackTraces = false) (D : va_G) (cy : Nat → ClassId) (base : Nat) (w : zW) (x : Nat) (o9 : Nat) (B : mB) (its : Int32) (k_o : zK w o9 = 14) (n_o : zN w o9 = 1) (hRep : Rep w x B) (hJ : mJ B) : vx_Met l yL_paidOut wsL_paidOut ({ frames := 8, cells := 8, slots := 100, locals := 133 }) (zPc D cy base (zH D cy base) [.ref x, .int its, .ref o9] w) (zQi base (zH D cy base) (fun (r0 : Int32) (u0 : zW) => ((cd_P B its) = 0 ∧ r0 = 0 ∧ Rep u0 x (B) ∧ gFr w u0 ∧ zJ u0 o9 0 = (an_of B 13 its).toInt64) ∨ (¬ (cd_P B its) = 0 ∧ r0 = (cd_P B its) ∧ u0 = w))) (zXC base (zH D cy base) (fun (_ : String) (_ : zW) => False)) 8 100 (fun q => base ≤ q) := by
  obtain ⟨ad, hR⟩ := hRep
  obtain ⟨hinv, hinv2, hinv3⟩ := hJ
  refine vx_ofWH (cc := cL_paidOut) (maxL := 4) (ret := (some .int)) (hh := [(0, 9, 12, 21)]) (by decide) rfl ?_
  intro p e s m args below meth c s₁ B9 hml hv
  obtain ⟨rfl, hA, hH⟩ := hv
  have hx := B9.exec
  have hb := B9.bytes
  have hr := B9.returns
  have hts := atoms_spec (ws := wsL_paidOut) B9.pre
  have hown : s.vm.findClass RL = some m.cls := findClass_of_methodNamed B9.named
  have hlocks := B9.notSynchronized
  have htb : c.exceptionTable.toList = [⟨0, 9, 12, 21⟩] := vx_table (x := yL_paidOut) B9 (hts (.codeWith yL_paidOut cL_paidOut 4 (some .int) [(0, 9, 12, 21)]) (by decide +kernel))
  have hS : va_S (fun q : Nat => base ≤ q) s.heap s.heap [] := va_S.rf
  have hl := lv_entry ([.ref x, .int its, .ref o9]) (n := 4) (Nat.le_of_ble_eq_true rfl)
  rw [lg_entry_eq]
  generalize (lg_sl ([.ref x, .int its, .ref o9]) ++ List.replicate (4 - (lg_sl ([.ref x, .int its, .ref o9])).length) Slot.unset).toArray = ls at hl ⊢
  have hl : lv_has ls 4 [(0, .ref x), (1, .int its), (2, .ref o9)] := hl
  have k_x := hR.1.1.1
  refine lv_aload_n hx hb dL_paidOut_0 rfl (lv_at hl 2 rfl) ?_
  refine lv_iconst (v := 0) hx hb dL_paidOut_1 (by decide) ?_
  refine lv_aload_n hx hb dL_paidOut_2 rfl (lv_at hl 0 rfl) ?_
  refine lv_iload_n hx hb dL_paidOut_3 rfl (lv_at hl 1 rfl) ?_
  refine z_xcalli (vx_runV (As := [.int its]) (rest := [.int 0, .ref o9]) ⟨hx, hb, hml, hown, hts⟩ (c5_paidOut l hl9 D cy base w x ad B its hR hinv hinv2) (cwV 1 hts gL_paidOut_X5_paidOut rfl rfl rfl (by decide +kernel) ⟨Nat.le_of_ble_eq_true rfl, Nat.le_of_ble_eq_true rfl⟩) (z_preV hA hS hH (z_recv hA hH (zk0 k_x (by decide)) (zE_k6 k_x) (q := (RX5, TX5, 6)) rfl)) rfl rfl hl.1 rfl (lv_room (Nat.le_of_ble_eq_true rfl)) dL_paidOut_4 ⟨Nat.le_of_ble_eq_true rfl, Nat.le_of_ble_eq_true rfl⟩) hS (fun E9 ce9 q9 u9 H locs hw9 hH hz9 hS hce9 hv9 hcl9 => ?_) (fun r9 u9 H locs hw9 hH hz9 hS => ?_)
  · obtain ⟨hthr, hu9⟩ := hw9
    rw [hu9] at hH
    obtain ⟨hc9, rfl⟩ := hthr
    refine vx_catch (name := zIob) hown [] ⟨0, 9, 12, 21⟩ [] htb (fun z9 h9 => nomatch h9) rfl (by decide) (hts (.classLink RL 21 zIob) (by decide +kernel)) (castable_self hcl9) hce9 hv9 hcl9 ?_
    refine W.eq (g2 := F0 m 12 ls [.ref q9]) rfl ?_
    refine lv_astore_n (lv' := [(3, .ref q9), (0, .ref x), (1, .int its), (2, .ref o9)]) hx hb dL_paidOut_12 rfl hl (by decide) rfl (fun ls hl => ?_)
    refine lv_iconst (v := 1) hx hb dL_paidOut_13 (by decide) ?_
    refine vx_ret ?_
    exact z_iret hx hb hr hlocks hH hS (Or.inr ⟨by rw [hc9]; decide, hc9.symm, rfl⟩) (by decide) (by decide) dL_paidOut_14
  · obtain ⟨hc9, rfl, hRep9, hF9⟩ := hw9
    have hFo := hF9 o9 (Or.inr (Or.inr (Or.inr k_o)))
    refine lv_i2l (v := ((an_of B 13 its)).toInt64) hx hb dL_paidOut_7 rfl ?_
    refine z_jast hx hb hA hH hS (zk0 (hFo.1.trans k_o) (by decide)) (zEn (zE_k14 (hFo.1.trans k_o)) (hFo.2.1.trans n_o)) 0 rfl (by decide) (by decide) (w' := zsJ u9 o9 0 (((an_of B 13 its)).toInt64)) (zEn (zst_14 (w := u9) (hFo.1.trans k_o) _ _) (hFo.2.1.trans n_o)) (zsJ_oth u9 o9 0 _) (fun _ => rfl) dL_paidOut_8 (fun H locs hH hS => ?_)
    refine lv_goto (tgt := 15) hx hb dL_paidOut_9 (by decide) ?_
    refine lv_iconst (v := 0) hx hb dL_paidOut_15 (by decide) ?_
    refine vx_ret ?_
    exact z_iret hx hb hr hlocks hH hS (Or.inl ⟨hc9, rfl, gRep hRep9, gFr_J hF9 _ _ _, gJ _ _ _ _⟩) (by decide) (by decide) dL_paidOut_16
set_option maxHeartbeats 4000000 in
set_option maxRecDepth 100000 in
theorem zL_pass (l : Launch) (hl9 : l.stackTraces = false) (D : va_G) (cy : Nat → ClassId) (base : Nat) (w : zW) (x : Nat) (o9 : Nat) (B : mB) (d : Int32) (k_o : zK w o9 = 14) (n_o : zN w o9 = 1) (hRep : Rep w x B) (hJ : mJ B) : vx_Met l yL_pass wsL_pass ({ frames := 8, cells := 8, slots := 100, locals := 135 }) (zPc D cy base (zH D cy base) [.ref x, .int d, .ref o9] w) (zQi base (zH D cy base) (fun (r0 : Int32) (u0 : zW) => ((cd_pass B d) = 0 ∧ r0 = 0 ∧ Rep u0 x (up_pass B d) ∧ gFr w u0 ∧ zJ u0 o9 0 = (an_pass B d).toInt64) ∨ (¬ (cd_pass B d) = 0 ∧ r0 = (cd_pass B d) ∧ u0 = w))) (zXC base (zH D cy base) (fun (_ : String) (_ : zW) => False)) 8 100 (fun q => base ≤ q) := by
  obtain ⟨ad, hR⟩ := hRep
  obtain ⟨hinv, hinv2, hinv3⟩ := hJ
  refine vx_ofWH (cc := cL_pass) (maxL := 4) (ret := (some .int)) (hh := [(0, 9, 12, 13)]) (by decide) rfl ?_
  intro p e s m args below meth c s₁ B9 hml hv
  obtain ⟨rfl, hA, hH⟩ := hv
  have hx := B9.exec
  have hb := B9.bytes
  have hr := B9.returns
  have hts := atoms_spec (ws := wsL_pass) B9.pre
  have hown : s.vm.findClass RL = some m.cls := findClass_of_methodNamed B9.named
  have hlocks := B9.notSynchronized
  have htb : c.exceptionTable.toList = [⟨0, 9, 12, 13⟩] := vx_table (x := yL_pass) B9 (hts (.codeWith yL_pass cL_pass 4 (some .int) [(0, 9, 12, 13)]) (by decide +kernel))
  have hS : va_S (fun q : Nat => base ≤ q) s.heap s.heap [] := va_S.rf
  have hl := lv_entry ([.ref x, .int d, .ref o9]) (n := 4) (Nat.le_of_ble_eq_true rfl)
  rw [lg_entry_eq]
  generalize (lg_sl ([.ref x, .int d, .ref o9]) ++ List.replicate (4 - (lg_sl ([.ref x, .int d, .ref o9])).length) Slot.unset).toArray = ls at hl ⊢
  have hl : lv_has ls 4 [(0, .ref x), (1, .int d), (2, .ref o9)] := hl
  have k_x := hR.1.1.1
  refine lv_aload_n hx hb dL_pass_0 rfl (lv_at hl 2 rfl) ?_
  refine lv_iconst (v := 0) hx hb dL_pass_1 (by decide) ?_
  refine lv_aload_n hx hb dL_pass_2 rfl (lv_at hl 0 rfl) ?_
  refine lv_iload_n hx hb dL_pass_3 rfl (lv_at hl 1 rfl) ?_
  refine z_xcalli (vx_runV (As := [.int d]) (rest := [.int 0, .ref o9]) ⟨hx, hb, hml, hown, hts⟩ (c5_pass l hl9 D cy base w x ad B d hR hinv hinv2 hinv3) (cwV 1 hts gL_pass_X5_pass rfl rfl rfl (by decide +kernel) ⟨Nat.le_of_ble_eq_true rfl, Nat.le_of_ble_eq_true rfl⟩) (z_preV hA hS hH (z_recv hA hH (zk0 k_x (by decide)) (zE_k6 k_x) (q := (RX5, TX5, 6)) rfl)) rfl rfl hl.1 rfl (lv_room (Nat.le_of_ble_eq_true rfl)) dL_pass_4 ⟨Nat.le_of_ble_eq_true rfl, Nat.le_of_ble_eq_true rfl⟩) hS (fun E9 ce9 q9 u9 H locs hw9 hH hz9 hS hce9 hv9 hcl9 => ?_) (fun r9 u9 H locs hw9 hH hz9 hS => ?_)
  · obtain ⟨hthr, hu9⟩ := hw9
    rw [hu9] at hH
    obtain ⟨hc9, rfl⟩ := hthr
    refine vx_catch (name := zIae) hown [] ⟨0, 9, 12, 13⟩ [] htb (fun z9 h9 => nomatch h9) rfl (by decide) (hts (.classLink RL 13 zIae) (by decide +kernel)) (castable_self hcl9) hce9 hv9 hcl9 ?_
    refine W.eq (g2 := F0 m 12 ls [.ref q9]) rfl ?_
    refine lv_astore_n (lv' := [(3, .ref q9), (0, .ref x), (1, .int d), (2, .ref o9)]) hx hb dL_pass_12 rfl hl (by decide) rfl (fun ls hl => ?_)
    refine lv_iconst (v := 1) hx hb dL_pass_13 (by decide) ?_
    refine vx_ret ?_
    exact z_iret hx hb hr hlocks hH hS (Or.inr ⟨by rw [hc9]; decide, hc9.symm, rfl⟩) (by decide) (by decide) dL_pass_14
  · obtain ⟨hc9, rfl, hRep9, hF9⟩ := hw9
    have hFo := hF9 o9 (Or.inr (Or.inr (Or.inr k_o)))
    refine lv_i2l (v := ((an_pass B d)).toInt64) hx hb dL_pass_7 rfl ?_
    refine z_jast hx hb hA hH hS (zk0 (hFo.1.trans k_o) (by decide)) (zEn (zE_k14 (hFo.1.trans k_o)) (hFo.2.1.trans n_o)) 0 rfl (by decide) (by decide) (w' := zsJ u9 o9 0 (((an_pass B d)).toInt64)) (zEn (zst_14 (w := u9) (hFo.1.trans k_o) _ _) (hFo.2.1.trans n_o)) (zsJ_oth u9 o9 0 _) (fun _ => rfl) dL_pass_8 (fun H locs hH hS => ?_)
    refine lv_goto (tgt := 15) hx hb dL_pass_9 (by decide) ?_
    refine lv_iconst (v := 0) hx hb dL_pass_15 (by decide) ?_
    refine vx_ret ?_
    exact z_iret hx hb hr hlocks hH hS (Or.inl ⟨hc9, rfl, gRep hRep9, gFr_J hF9 _ _ _, gJ _ _ _ _⟩) (by decide) (by decide) dL_pass_16
