theorem rgc1 {v : Int32} (g : v = 0 ∨ v = 1 ∨ v = 2) (h : 2 ≤ v) : v + (if v < 2 then 1 else 0) = 2 := by
  rcases g with rfl | rfl | rfl
  · exact absurd h (by decide)
  · exact absurd h (by decide)
  · decide
theorem rgc0 {v : Int32} (h : ¬ 2 ≤ v) : v + (if v < 2 then 1 else 0) = v + 1 := by rw [if_pos (Int32.not_le.mp h)]
theorem rgo1 {v : Int32} (h : ¬ v ≤ 0) : v - (if 0 < v then 1 else 0) = v - 1 := by rw [if_pos (Int32.not_le.mp h)]
theorem rgo0 {v : Int32} (g : v = 0 ∨ v = 1 ∨ v = 2) (h : v ≤ 0) : v - (if 0 < v then 1 else 0) = 0 := by
  rcases g with rfl | rfl | rfl
  · decide
  · exact absurd h (by decide)
  · exact absurd h (by decide)
set_option maxHeartbeats 8000000 in
set_option maxRecDepth 100000 in
theorem zl_isPaper0 (l : Launch) (hl9 : l.stackTraces = false) (D : va_G) (cy : Nat → ClassId) (base x : Nat) (r : Nat → Nat) (n : Nat) (B A : mB) (hn : 5 ≤ n) {N : Nat} (hE : JE B A) (hY : JX N B) (i o t : Nat) (hi9 : i ≤ nP B) (ho : o < 5) (ht : t < 7000) : Met l yL_isPaper wsL_isPaper ({ frames := 9, cells := 14, slots := 120, locals := 162 }) (zPc D cy base (lH D cy base x r n) [.ref x, .ref (r 0), .ref (r 2), .ref (r 3), .ref (r 4), .int 0, .int (nI i), .int (nI o), .int (nI t)] (B, A)) (zQi base (lH D cy base x r n) (fun (r0 : Int32) (u0 : lU) => r0 = 1 ∧ JE u0.1 u0.2 ∧ JX (N) u0.1)) 14 120 (fun q => base ≤ q) := by
  refine Met.ofW (cc := cL_isPaper) (maxL := 14) (ret := (some .boolean)) (by decide) rfl ?_
  intro p e s m args below meth c s₁ B9 hml hv
  obtain ⟨rfl, hA, hH⟩ := hv
  have hx := B9.exec
  have hb := B9.bytes
  have hr := B9.returns
  have hts := atoms_spec (ws := wsL_isPaper) B9.pre
  have hown : s.vm.findClass RL = some m.cls := findClass_of_methodNamed B9.named
  have hlocks := B9.notSynchronized
  have hS : va_S (fun q : Nat => base ≤ q) s.heap s.heap [] := va_S.rf
  have hl := lv_entry ([.ref x, .ref (r 0), .ref (r 2), .ref (r 3), .ref (r 4), .int 0, .int (nI i), .int (nI o), .int (nI t)]) (n := 14) (Nat.le_of_ble_eq_true rfl)
  rw [lg_entry_eq]
  generalize (lg_sl ([.ref x, .ref (r 0), .ref (r 2), .ref (r 3), .ref (r 4), .int 0, .int (nI i), .int (nI o), .int (nI t)]) ++ List.replicate (14 - (lg_sl ([.ref x, .ref (r 0), .ref (r 2), .ref (r 3), .ref (r 4), .int 0, .int (nI i), .int (nI o), .int (nI t)])).length) Slot.unset).toArray = ls at hl ⊢
  have hl : lv_has ls 14 [(0, .ref x), (1, .ref (r 0)), (2, .ref (r 2)), (3, .ref (r 3)), (4, .ref (r 4)), (5, .int 0), (6, .int (nI i)), (7, .int (nI o)), (8, .int (nI t))] := hl
  have hJ := lH_J hH
  have hn6 : nP B ≤ 6 := hE.1.1
  have hn8 : nO B ≤ 8 := hJ.1.2.1.1
  refine lv_iload hx hb dL_isPaper_0 (lv_at hl 6 rfl) ?_
  refine lv_aload hx hb dL_isPaper_2 (lv_at hl 4 rfl) ?_
  refine lv_iconst (v := 1) hx hb dL_isPaper_4 (by decide) ?_
  refine l_iald (f := 4) (v := (nI (nP B))) (by omega) hx hb hA hH 1 rfl (by rw [show lLen 4 = 3 from rfl]; omega) hE.1.2.2.1 dL_isPaper_5 ?_
  refine lv_icmp_ge (tgt := 24) hx hb dL_isPaper_6 (by decide) (fun c_1 => ?_) (fun c_1 => ?_)
  · have c_1 := (nI_leI (a := nP B) (b := i) (by omega) (by omega)).mp c_1
    refine lv_iconst (v := 0) hx hb dL_isPaper_24 (by decide) ?_
    refine lv_istore (lv' := [(9, .int 0), (0, .ref x), (1, .ref (r 0)), (2, .ref (r 2)), (3, .ref (r 3)), (4, .ref (r 4)), (5, .int 0), (6, .int (nI i)), (7, .int (nI o)), (8, .int (nI t))]) hx hb dL_isPaper_25 hl (by decide) rfl (fun ls hl => ?_)
    refine lv_iload hx hb dL_isPaper_27 (lv_at hl 9 rfl) ?_
    refine lv_bipush (v := 30) hx hb dL_isPaper_29 (by decide) ?_
    refine lv_irem hx hb dL_isPaper_31 (by decide) ?_
    refine lv_eqi (pk_rem (a := t) (d := 30) (by omega) (by omega) (by omega)) ?_
    refine lv_if_ne (tgt := 40) hx hb dL_isPaper_32 (by decide) (fun c_2 => ?_) (fun c_2 => ?_)
    · have c_2 : ¬ (t % 30 = 0) := fun z => c_2 ((nI_eq (a := t % 30) (b := 0) (by omega) (by omega)).mpr z)
      refine lv_iload hx hb dL_isPaper_40 (lv_at hl 9 rfl) ?_
      refine lv_bipush (v := 15) hx hb dL_isPaper_42 (by decide) ?_
      refine lv_irem hx hb dL_isPaper_44 (by decide) ?_
      refine lv_eqi (pk_rem (a := t) (d := 15) (by omega) (by omega) (by omega)) ?_
      refine lv_istore (lv' := [(10, .int (nI (t % 15))), (9, .int 0), (0, .ref x), (1, .ref (r 0)), (2, .ref (r 2)), (3, .ref (r 3)), (4, .ref (r 4)), (5, .int 0), (6, .int (nI i)), (7, .int (nI o)), (8, .int (nI t))]) hx hb dL_isPaper_45 hl (by decide) rfl (fun ls hl => ?_)
      refine lv_iload hx hb dL_isPaper_47 (lv_at hl 1 rfl) ?_
      refine lv_if_eq (tgt := 60) hx hb dL_isPaper_49 (by decide) (fun _ => ?_) (fun c_3 => absurd c_3 (by decide))
      refine lv_iconst (v := 0) hx hb dL_isPaper_60 (by decide) ?_
      refine lv_istore (lv' := [(11, .int 0), (10, .int (nI (t % 15))), (9, .int 0), (0, .ref x), (1, .ref (r 0)), (2, .ref (r 2)), (3, .ref (r 3)), (4, .ref (r 4)), (5, .int 0), (6, .int (nI i)), (7, .int (nI o)), (8, .int (nI t))]) hx hb dL_isPaper_61 hl (by decide) rfl (fun ls hl => ?_)
      refine lv_iload hx hb dL_isPaper_63 (lv_at hl 2 rfl) ?_
      refine lv_if_eq (tgt := 101) hx hb dL_isPaper_65 (by decide) (fun _ => ?_) (fun c_4 => absurd c_4 (by decide))
      refine lv_iconst (v := 0) hx hb dL_isPaper_101 (by decide) ?_
      refine lv_istore (lv' := [(12, .int 0), (11, .int 0), (10, .int (nI (t % 15))), (9, .int 0), (0, .ref x), (1, .ref (r 0)), (2, .ref (r 2)), (3, .ref (r 3)), (4, .ref (r 4)), (5, .int 0), (6, .int (nI i)), (7, .int (nI o)), (8, .int (nI t))]) hx hb dL_isPaper_102 hl (by decide) rfl (fun ls hl => ?_)
      refine lv_iload hx hb dL_isPaper_104 (lv_at hl 3 rfl) ?_
      refine lv_if_eq (tgt := 121) hx hb dL_isPaper_106 (by decide) (fun _ => ?_) (fun c_5 => absurd c_5 (by decide))
      refine lv_aload_n hx hb dL_isPaper_121 rfl (lv_at hl 4 rfl) ?_
      refine lv_iconst (v := 1) hx hb dL_isPaper_122 (by decide) ?_
      refine lv_iload hx hb dL_isPaper_123 (lv_at hl 9 rfl) ?_
      refine lv_iadd hx hb dL_isPaper_125 ?_
      refine lv_eqi (show (1 + 0 : Int32) = 1 from rfl) ?_
      refine lv_iload hx hb dL_isPaper_126 (lv_at hl 10 rfl) ?_
      refine lv_iload hx hb dL_isPaper_128 (lv_at hl 9 rfl) ?_
      refine lv_if_ne (tgt := 138) hx hb dL_isPaper_130 (by decide) (fun c_6 => absurd c_6 (by decide)) (fun _ => ?_)
      refine lv_iload hx hb dL_isPaper_133 (lv_at hl 11 rfl) ?_
      refine lv_goto (tgt := 140) hx hb dL_isPaper_135 (by decide) ?_
      refine lv_iload hx hb dL_isPaper_140 (lv_at hl 2 rfl) ?_
      refine lv_iconst (v := 0) hx hb dL_isPaper_142 (by decide) ?_
      refine z_xcalli (vx_runSX (As := [.ref x, .int 1, .int (nI i), .int (nI o), .int (nI (t % 15)), .int 0]) (rest := []) ⟨hx, hb, hml, hown, hts⟩ (zd_course l hl9 D cy base x r n B A (nI i) (nI o) (nI (t % 15)) 0) (vx_cwSW 6 hts gL_isPaper_L_does rfl rfl rfl (by decide +kernel) ⟨Nat.le_of_ble_eq_true rfl, Nat.le_of_ble_eq_true rfl⟩) (z_preS hA hS hH) rfl rfl hl.1 rfl (lv_room (Nat.le_of_ble_eq_true rfl)) dL_isPaper_143 ⟨(by show _ ≤ (14 : Nat); omega), (by show _ ≤ (120 : Nat); omega)⟩) hS (fun E9 ce9 q9 u9 H locs hw9 hH hz9 hS hce9 hv9 hcl9 => hw9.elim) (fun r_k_7 u_k_7 H locs hw_k_7 hH hz_k_7 hS => ?_)
      rcases hw_k_7 with ⟨hc_k_7, rfl, hu_k_7⟩ | ⟨hc_k_7, rfl, hu_k_7⟩ | ⟨hc_k_7, rfl, hu_k_7⟩ | ⟨hc_k_7, rfl, hu_k_7⟩
      · exact absurd (hc_k_7.symm.trans (cdCourse1 hJ.1 (by omega) (by omega) (by omega))) (by decide)
      · rw [hu_k_7] at hH
        have hJ_k_7 := lH_J hH
        refine lv_iload hx hb dL_isPaper_146 (lv_at hl 3 rfl) ?_
        refine lv_if_ne (tgt := 156) hx hb dL_isPaper_148 (by decide) (fun c_8 => absurd c_8 (by decide)) (fun _ => ?_)
        refine lv_bipush (v := (-30)) hx hb dL_isPaper_151 (by decide) ?_
        refine lv_goto (tgt := 170) hx hb dL_isPaper_153 (by decide) ?_
        refine lv_icmp_ne (tgt := 177) hx hb dL_isPaper_170 (by decide) (fun c_9 => absurd c_9 (by decide)) (fun _ => ?_)
        refine lv_iconst (v := 1) hx hb dL_isPaper_173 (by decide) ?_
        refine lv_goto (tgt := 178) hx hb dL_isPaper_174 (by decide) ?_
        exact z_zret hx hb hr hlocks hH hS rfl (⟨rfl, hE, hY⟩) (by omega) (by omega) dL_isPaper_178
      · exact absurd (hc_k_7.symm.trans (cdCourse1 hJ.1 (by omega) (by omega) (by omega))) (by decide)
      · exact absurd (hc_k_7.symm.trans (cdCourse1 hJ.1 (by omega) (by omega) (by omega))) (by decide)
    · have c_2 := (nI_eq (a := t % 30) (b := 0) (by omega) (by omega)).mp c_2
      refine lv_bipush (v := 101) hx hb dL_isPaper_35 (by decide) ?_
      refine lv_goto (tgt := 45) hx hb dL_isPaper_37 (by decide) ?_
      refine lv_istore (lv' := [(10, .int 101), (9, .int 0), (0, .ref x), (1, .ref (r 0)), (2, .ref (r 2)), (3, .ref (r 3)), (4, .ref (r 4)), (5, .int 0), (6, .int (nI i)), (7, .int (nI o)), (8, .int (nI t))]) hx hb dL_isPaper_45 hl (by decide) rfl (fun ls hl => ?_)
      refine lv_iload hx hb dL_isPaper_47 (lv_at hl 1 rfl) ?_
      refine lv_if_eq (tgt := 60) hx hb dL_isPaper_49 (by decide) (fun _ => ?_) (fun c_10 => absurd c_10 (by decide))
      refine lv_iconst (v := 0) hx hb dL_isPaper_60 (by decide) ?_
      refine lv_istore (lv' := [(11, .int 0), (10, .int 101), (9, .int 0), (0, .ref x), (1, .ref (r 0)), (2, .ref (r 2)), (3, .ref (r 3)), (4, .ref (r 4)), (5, .int 0), (6, .int (nI i)), (7, .int (nI o)), (8, .int (nI t))]) hx hb dL_isPaper_61 hl (by decide) rfl (fun ls hl => ?_)
      refine lv_iload hx hb dL_isPaper_63 (lv_at hl 2 rfl) ?_
      refine lv_if_eq (tgt := 101) hx hb dL_isPaper_65 (by decide) (fun _ => ?_) (fun c_11 => absurd c_11 (by decide))
      refine lv_iconst (v := 0) hx hb dL_isPaper_101 (by decide) ?_
      refine lv_istore (lv' := [(12, .int 0), (11, .int 0), (10, .int 101), (9, .int 0), (0, .ref x), (1, .ref (r 0)), (2, .ref (r 2)), (3, .ref (r 3)), (4, .ref (r 4)), (5, .int 0), (6, .int (nI i)), (7, .int (nI o)), (8, .int (nI t))]) hx hb dL_isPaper_102 hl (by decide) rfl (fun ls hl => ?_)
      refine lv_iload hx hb dL_isPaper_104 (lv_at hl 3 rfl) ?_
      refine lv_if_eq (tgt := 121) hx hb dL_isPaper_106 (by decide) (fun _ => ?_) (fun c_12 => absurd c_12 (by decide))
      refine lv_aload_n hx hb dL_isPaper_121 rfl (lv_at hl 4 rfl) ?_
      refine lv_iconst (v := 1) hx hb dL_isPaper_122 (by decide) ?_
      refine lv_iload hx hb dL_isPaper_123 (lv_at hl 9 rfl) ?_
      refine lv_iadd hx hb dL_isPaper_125 ?_
      refine lv_eqi (show (1 + 0 : Int32) = 1 from rfl) ?_
      refine lv_iload hx hb dL_isPaper_126 (lv_at hl 10 rfl) ?_
      refine lv_iload hx hb dL_isPaper_128 (lv_at hl 9 rfl) ?_
      refine lv_if_ne (tgt := 138) hx hb dL_isPaper_130 (by decide) (fun c_13 => absurd c_13 (by decide)) (fun _ => ?_)
      refine lv_iload hx hb dL_isPaper_133 (lv_at hl 11 rfl) ?_
      refine lv_goto (tgt := 140) hx hb dL_isPaper_135 (by decide) ?_
      refine lv_iload hx hb dL_isPaper_140 (lv_at hl 2 rfl) ?_
      refine lv_iconst (v := 0) hx hb dL_isPaper_142 (by decide) ?_
      refine z_xcalli (vx_runSX (As := [.ref x, .int 1, .int (nI i), .int (nI o), .int 101, .int 0]) (rest := []) ⟨hx, hb, hml, hown, hts⟩ (zd_course l hl9 D cy base x r n B A (nI i) (nI o) 101 0) (vx_cwSW 6 hts gL_isPaper_L_does rfl rfl rfl (by decide +kernel) ⟨Nat.le_of_ble_eq_true rfl, Nat.le_of_ble_eq_true rfl⟩) (z_preS hA hS hH) rfl rfl hl.1 rfl (lv_room (Nat.le_of_ble_eq_true rfl)) dL_isPaper_143 ⟨(by show _ ≤ (14 : Nat); omega), (by show _ ≤ (120 : Nat); omega)⟩) hS (fun E9 ce9 q9 u9 H locs hw9 hH hz9 hS hce9 hv9 hcl9 => hw9.elim) (fun r_k_14 u_k_14 H locs hw_k_14 hH hz_k_14 hS => ?_)
      rcases hw_k_14 with ⟨hc_k_14, rfl, hu_k_14⟩ | ⟨hc_k_14, rfl, hu_k_14⟩ | ⟨hc_k_14, rfl, hu_k_14⟩ | ⟨hc_k_14, rfl, hu_k_14⟩
      · exact absurd (hc_k_14.symm.trans (cdCourse1 hJ.1 (by omega) (by omega) (by omega))) (by decide)
      · rw [hu_k_14] at hH
        have hJ_k_14 := lH_J hH
        refine lv_iload hx hb dL_isPaper_146 (lv_at hl 3 rfl) ?_
        refine lv_if_ne (tgt := 156) hx hb dL_isPaper_148 (by decide) (fun c_15 => absurd c_15 (by decide)) (fun _ => ?_)
        refine lv_bipush (v := (-30)) hx hb dL_isPaper_151 (by decide) ?_
        refine lv_goto (tgt := 170) hx hb dL_isPaper_153 (by decide) ?_
        refine lv_icmp_ne (tgt := 177) hx hb dL_isPaper_170 (by decide) (fun c_16 => absurd c_16 (by decide)) (fun _ => ?_)
        refine lv_iconst (v := 1) hx hb dL_isPaper_173 (by decide) ?_
        refine lv_goto (tgt := 178) hx hb dL_isPaper_174 (by decide) ?_
        exact z_zret hx hb hr hlocks hH hS rfl (⟨rfl, hE, hY⟩) (by omega) (by omega) dL_isPaper_178
      · exact absurd (hc_k_14.symm.trans (cdCourse1 hJ.1 (by omega) (by omega) (by omega))) (by decide)
      · exact absurd (hc_k_14.symm.trans (cdCourse1 hJ.1 (by omega) (by omega) (by omega))) (by decide)
  · have c_1 : ¬ (nP B ≤ i) := fun z => c_1 ((nI_leI (a := nP B) (b := i) (by omega) (by omega)).mpr z)
    have hi : i < nP B := by omega
    have hix : ix (nI i) = i := ix_nI (by omega)
    have ho10 : oc B i ≤ 10 := (hE.2.2.2.1 i (by omega)).1
    refine lv_iload hx hb dL_isPaper_9 (lv_at hl 5 rfl) ?_
    refine lv_if_gt (tgt := 20) hx hb dL_isPaper_11 (by decide) (fun c_17 => absurd c_17 (by decide)) (fun _ => ?_)
    refine lv_iload hx hb dL_isPaper_14 (lv_at hl 7 rfl) ?_
    refine lv_iconst (v := 4) hx hb dL_isPaper_16 (by decide) ?_
    refine lv_icmp_ge (tgt := 24) hx hb dL_isPaper_17 (by decide) (fun c_18 => ?_) (fun c_18 => ?_)
    · have c_18 := (nI_leI (a := 4) (b := o) (by omega) (by omega)).mp c_18
      refine lv_iconst (v := 0) hx hb dL_isPaper_24 (by decide) ?_
      refine lv_istore (lv' := [(9, .int 0), (0, .ref x), (1, .ref (r 0)), (2, .ref (r 2)), (3, .ref (r 3)), (4, .ref (r 4)), (5, .int 0), (6, .int (nI i)), (7, .int (nI o)), (8, .int (nI t))]) hx hb dL_isPaper_25 hl (by decide) rfl (fun ls hl => ?_)
      refine lv_iload hx hb dL_isPaper_27 (lv_at hl 9 rfl) ?_
      refine lv_bipush (v := 30) hx hb dL_isPaper_29 (by decide) ?_
      refine lv_irem hx hb dL_isPaper_31 (by decide) ?_
      refine lv_eqi (pk_rem (a := t) (d := 30) (by omega) (by omega) (by omega)) ?_
      refine lv_if_ne (tgt := 40) hx hb dL_isPaper_32 (by decide) (fun c_19 => ?_) (fun c_19 => ?_)
      · have c_19 : ¬ (t % 30 = 0) := fun z => c_19 ((nI_eq (a := t % 30) (b := 0) (by omega) (by omega)).mpr z)
        refine lv_iload hx hb dL_isPaper_40 (lv_at hl 9 rfl) ?_
        refine lv_bipush (v := 15) hx hb dL_isPaper_42 (by decide) ?_
        refine lv_irem hx hb dL_isPaper_44 (by decide) ?_
        refine lv_eqi (pk_rem (a := t) (d := 15) (by omega) (by omega) (by omega)) ?_
        refine lv_istore (lv' := [(10, .int (nI (t % 15))), (9, .int 0), (0, .ref x), (1, .ref (r 0)), (2, .ref (r 2)), (3, .ref (r 3)), (4, .ref (r 4)), (5, .int 0), (6, .int (nI i)), (7, .int (nI o)), (8, .int (nI t))]) hx hb dL_isPaper_45 hl (by decide) rfl (fun ls hl => ?_)
        refine lv_iload hx hb dL_isPaper_47 (lv_at hl 1 rfl) ?_
        refine lv_if_eq (tgt := 60) hx hb dL_isPaper_49 (by decide) (fun _ => ?_) (fun c_20 => absurd c_20 (by decide))
        refine lv_iconst (v := 0) hx hb dL_isPaper_60 (by decide) ?_
        refine lv_istore (lv' := [(11, .int 0), (10, .int (nI (t % 15))), (9, .int 0), (0, .ref x), (1, .ref (r 0)), (2, .ref (r 2)), (3, .ref (r 3)), (4, .ref (r 4)), (5, .int 0), (6, .int (nI i)), (7, .int (nI o)), (8, .int (nI t))]) hx hb dL_isPaper_61 hl (by decide) rfl (fun ls hl => ?_)
        refine lv_iload hx hb dL_isPaper_63 (lv_at hl 2 rfl) ?_
        refine lv_if_eq (tgt := 101) hx hb dL_isPaper_65 (by decide) (fun _ => ?_) (fun c_21 => absurd c_21 (by decide))
        refine lv_iconst (v := 0) hx hb dL_isPaper_101 (by decide) ?_
        refine lv_istore (lv' := [(12, .int 0), (11, .int 0), (10, .int (nI (t % 15))), (9, .int 0), (0, .ref x), (1, .ref (r 0)), (2, .ref (r 2)), (3, .ref (r 3)), (4, .ref (r 4)), (5, .int 0), (6, .int (nI i)), (7, .int (nI o)), (8, .int (nI t))]) hx hb dL_isPaper_102 hl (by decide) rfl (fun ls hl => ?_)
        refine lv_iload hx hb dL_isPaper_104 (lv_at hl 3 rfl) ?_
        refine lv_if_eq (tgt := 121) hx hb dL_isPaper_106 (by decide) (fun _ => ?_) (fun c_22 => absurd c_22 (by decide))
        refine lv_aload_n hx hb dL_isPaper_121 rfl (lv_at hl 4 rfl) ?_
        refine lv_iconst (v := 1) hx hb dL_isPaper_122 (by decide) ?_
        refine lv_iload hx hb dL_isPaper_123 (lv_at hl 9 rfl) ?_
        refine lv_iadd hx hb dL_isPaper_125 ?_
        refine lv_eqi (show (1 + 0 : Int32) = 1 from rfl) ?_
        refine lv_iload hx hb dL_isPaper_126 (lv_at hl 10 rfl) ?_
        refine lv_iload hx hb dL_isPaper_128 (lv_at hl 9 rfl) ?_
        refine lv_if_ne (tgt := 138) hx hb dL_isPaper_130 (by decide) (fun c_23 => absurd c_23 (by decide)) (fun _ => ?_)
        refine lv_iload hx hb dL_isPaper_133 (lv_at hl 11 rfl) ?_
        refine lv_goto (tgt := 140) hx hb dL_isPaper_135 (by decide) ?_
        refine lv_iload hx hb dL_isPaper_140 (lv_at hl 2 rfl) ?_
        refine lv_iconst (v := 0) hx hb dL_isPaper_142 (by decide) ?_
        refine z_xcalli (vx_runSX (As := [.ref x, .int 1, .int (nI i), .int (nI o), .int (nI (t % 15)), .int 0]) (rest := []) ⟨hx, hb, hml, hown, hts⟩ (zd_course l hl9 D cy base x r n B A (nI i) (nI o) (nI (t % 15)) 0) (vx_cwSW 6 hts gL_isPaper_L_does rfl rfl rfl (by decide +kernel) ⟨Nat.le_of_ble_eq_true rfl, Nat.le_of_ble_eq_true rfl⟩) (z_preS hA hS hH) rfl rfl hl.1 rfl (lv_room (Nat.le_of_ble_eq_true rfl)) dL_isPaper_143 ⟨(by show _ ≤ (14 : Nat); omega), (by show _ ≤ (120 : Nat); omega)⟩) hS (fun E9 ce9 q9 u9 H locs hw9 hH hz9 hS hce9 hv9 hcl9 => hw9.elim) (fun r_k_24 u_k_24 H locs hw_k_24 hH hz_k_24 hS => ?_)
        rcases hw_k_24 with ⟨hc_k_24, rfl, hu_k_24⟩ | ⟨hc_k_24, rfl, hu_k_24⟩ | ⟨hc_k_24, rfl, hu_k_24⟩ | ⟨hc_k_24, rfl, hu_k_24⟩
        · exact absurd (hc_k_24.symm.trans (cdCourse1 hJ.1 (by omega) (by omega) (by omega))) (by decide)
        · rw [hu_k_24] at hH
          have hJ_k_24 := lH_J hH
          refine lv_iload hx hb dL_isPaper_146 (lv_at hl 3 rfl) ?_
          refine lv_if_ne (tgt := 156) hx hb dL_isPaper_148 (by decide) (fun c_25 => absurd c_25 (by decide)) (fun _ => ?_)
          refine lv_bipush (v := (-30)) hx hb dL_isPaper_151 (by decide) ?_
          refine lv_goto (tgt := 170) hx hb dL_isPaper_153 (by decide) ?_
          refine lv_icmp_ne (tgt := 177) hx hb dL_isPaper_170 (by decide) (fun c_26 => absurd c_26 (by decide)) (fun _ => ?_)
          refine lv_iconst (v := 1) hx hb dL_isPaper_173 (by decide) ?_
          refine lv_goto (tgt := 178) hx hb dL_isPaper_174 (by decide) ?_
          exact z_zret hx hb hr hlocks hH hS rfl (⟨rfl, hE, hY⟩) (by omega) (by omega) dL_isPaper_178
        · exact absurd (hc_k_24.symm.trans (cdCourse1 hJ.1 (by omega) (by omega) (by omega))) (by decide)
        · exact absurd (hc_k_24.symm.trans (cdCourse1 hJ.1 (by omega) (by omega) (by omega))) (by decide)
      · have c_19 := (nI_eq (a := t % 30) (b := 0) (by omega) (by omega)).mp c_19
        refine lv_bipush (v := 101) hx hb dL_isPaper_35 (by decide) ?_
        refine lv_goto (tgt := 45) hx hb dL_isPaper_37 (by decide) ?_
        refine lv_istore (lv' := [(10, .int 101), (9, .int 0), (0, .ref x), (1, .ref (r 0)), (2, .ref (r 2)), (3, .ref (r 3)), (4, .ref (r 4)), (5, .int 0), (6, .int (nI i)), (7, .int (nI o)), (8, .int (nI t))]) hx hb dL_isPaper_45 hl (by decide) rfl (fun ls hl => ?_)
        refine lv_iload hx hb dL_isPaper_47 (lv_at hl 1 rfl) ?_
        refine lv_if_eq (tgt := 60) hx hb dL_isPaper_49 (by decide) (fun _ => ?_) (fun c_27 => absurd c_27 (by decide))
        refine lv_iconst (v := 0) hx hb dL_isPaper_60 (by decide) ?_
        refine lv_istore (lv' := [(11, .int 0), (10, .int 101), (9, .int 0), (0, .ref x), (1, .ref (r 0)), (2, .ref (r 2)), (3, .ref (r 3)), (4, .ref (r 4)), (5, .int 0), (6, .int (nI i)), (7, .int (nI o)), (8, .int (nI t))]) hx hb dL_isPaper_61 hl (by decide) rfl (fun ls hl => ?_)
        refine lv_iload hx hb dL_isPaper_63 (lv_at hl 2 rfl) ?_
        refine lv_if_eq (tgt := 101) hx hb dL_isPaper_65 (by decide) (fun _ => ?_) (fun c_28 => absurd c_28 (by decide))
        refine lv_iconst (v := 0) hx hb dL_isPaper_101 (by decide) ?_
        refine lv_istore (lv' := [(12, .int 0), (11, .int 0), (10, .int 101), (9, .int 0), (0, .ref x), (1, .ref (r 0)), (2, .ref (r 2)), (3, .ref (r 3)), (4, .ref (r 4)), (5, .int 0), (6, .int (nI i)), (7, .int (nI o)), (8, .int (nI t))]) hx hb dL_isPaper_102 hl (by decide) rfl (fun ls hl => ?_)
        refine lv_iload hx hb dL_isPaper_104 (lv_at hl 3 rfl) ?_
        refine lv_if_eq (tgt := 121) hx hb dL_isPaper_106 (by decide) (fun _ => ?_) (fun c_29 => absurd c_29 (by decide))
        refine lv_aload_n hx hb dL_isPaper_121 rfl (lv_at hl 4 rfl) ?_
        refine lv_iconst (v := 1) hx hb dL_isPaper_122 (by decide) ?_
        refine lv_iload hx hb dL_isPaper_123 (lv_at hl 9 rfl) ?_
        refine lv_iadd hx hb dL_isPaper_125 ?_
        refine lv_eqi (show (1 + 0 : Int32) = 1 from rfl) ?_
        refine lv_iload hx hb dL_isPaper_126 (lv_at hl 10 rfl) ?_
        refine lv_iload hx hb dL_isPaper_128 (lv_at hl 9 rfl) ?_
        refine lv_if_ne (tgt := 138) hx hb dL_isPaper_130 (by decide) (fun c_30 => absurd c_30 (by decide)) (fun _ => ?_)
        refine lv_iload hx hb dL_isPaper_133 (lv_at hl 11 rfl) ?_
        refine lv_goto (tgt := 140) hx hb dL_isPaper_135 (by decide) ?_
        refine lv_iload hx hb dL_isPaper_140 (lv_at hl 2 rfl) ?_
        refine lv_iconst (v := 0) hx hb dL_isPaper_142 (by decide) ?_
        refine z_xcalli (vx_runSX (As := [.ref x, .int 1, .int (nI i), .int (nI o), .int 101, .int 0]) (rest := []) ⟨hx, hb, hml, hown, hts⟩ (zd_course l hl9 D cy base x r n B A (nI i) (nI o) 101 0) (vx_cwSW 6 hts gL_isPaper_L_does rfl rfl rfl (by decide +kernel) ⟨Nat.le_of_ble_eq_true rfl, Nat.le_of_ble_eq_true rfl⟩) (z_preS hA hS hH) rfl rfl hl.1 rfl (lv_room (Nat.le_of_ble_eq_true rfl)) dL_isPaper_143 ⟨(by show _ ≤ (14 : Nat); omega), (by show _ ≤ (120 : Nat); omega)⟩) hS (fun E9 ce9 q9 u9 H locs hw9 hH hz9 hS hce9 hv9 hcl9 => hw9.elim) (fun r_k_31 u_k_31 H locs hw_k_31 hH hz_k_31 hS => ?_)
        rcases hw_k_31 with ⟨hc_k_31, rfl, hu_k_31⟩ | ⟨hc_k_31, rfl, hu_k_31⟩ | ⟨hc_k_31, rfl, hu_k_31⟩ | ⟨hc_k_31, rfl, hu_k_31⟩
        · exact absurd (hc_k_31.symm.trans (cdCourse1 hJ.1 (by omega) (by omega) (by omega))) (by decide)
        · rw [hu_k_31] at hH
          have hJ_k_31 := lH_J hH
          refine lv_iload hx hb dL_isPaper_146 (lv_at hl 3 rfl) ?_
          refine lv_if_ne (tgt := 156) hx hb dL_isPaper_148 (by decide) (fun c_32 => absurd c_32 (by decide)) (fun _ => ?_)
          refine lv_bipush (v := (-30)) hx hb dL_isPaper_151 (by decide) ?_
          refine lv_goto (tgt := 170) hx hb dL_isPaper_153 (by decide) ?_
          refine lv_icmp_ne (tgt := 177) hx hb dL_isPaper_170 (by decide) (fun c_33 => absurd c_33 (by decide)) (fun _ => ?_)
          refine lv_iconst (v := 1) hx hb dL_isPaper_173 (by decide) ?_
          refine lv_goto (tgt := 178) hx hb dL_isPaper_174 (by decide) ?_
          exact z_zret hx hb hr hlocks hH hS rfl (⟨rfl, hE, hY⟩) (by omega) (by omega) dL_isPaper_178
        · exact absurd (hc_k_31.symm.trans (cdCourse1 hJ.1 (by omega) (by omega) (by omega))) (by decide)
        · exact absurd (hc_k_31.symm.trans (cdCourse1 hJ.1 (by omega) (by omega) (by omega))) (by decide)
    · have c_18 : ¬ (4 ≤ o) := fun z => c_18 ((nI_leI (a := 4) (b := o) (by omega) (by omega)).mpr z)
      refine lv_iconst (v := 1) hx hb dL_isPaper_20 (by decide) ?_
      refine lv_goto (tgt := 25) hx hb dL_isPaper_21 (by decide) ?_
      refine lv_istore (lv' := [(9, .int 1), (0, .ref x), (1, .ref (r 0)), (2, .ref (r 2)), (3, .ref (r 3)), (4, .ref (r 4)), (5, .int 0), (6, .int (nI i)), (7, .int (nI o)), (8, .int (nI t))]) hx hb dL_isPaper_25 hl (by decide) rfl (fun ls hl => ?_)
      refine lv_iload hx hb dL_isPaper_27 (lv_at hl 9 rfl) ?_
      refine lv_bipush (v := 30) hx hb dL_isPaper_29 (by decide) ?_
      refine lv_irem hx hb dL_isPaper_31 (by decide) ?_
      refine lv_eqi (pk_rem (a := t) (d := 30) (by omega) (by omega) (by omega)) ?_
      refine lv_if_ne (tgt := 40) hx hb dL_isPaper_32 (by decide) (fun c_34 => ?_) (fun c_34 => ?_)
      · have c_34 : ¬ (t % 30 = 0) := fun z => c_34 ((nI_eq (a := t % 30) (b := 0) (by omega) (by omega)).mpr z)
        refine lv_iload hx hb dL_isPaper_40 (lv_at hl 9 rfl) ?_
        refine lv_bipush (v := 15) hx hb dL_isPaper_42 (by decide) ?_
        refine lv_irem hx hb dL_isPaper_44 (by decide) ?_
        refine lv_eqi (pk_rem (a := t) (d := 15) (by omega) (by omega) (by omega)) ?_
        refine lv_istore (lv' := [(10, .int (nI (t % 15))), (9, .int 1), (0, .ref x), (1, .ref (r 0)), (2, .ref (r 2)), (3, .ref (r 3)), (4, .ref (r 4)), (5, .int 0), (6, .int (nI i)), (7, .int (nI o)), (8, .int (nI t))]) hx hb dL_isPaper_45 hl (by decide) rfl (fun ls hl => ?_)
        refine lv_iload hx hb dL_isPaper_47 (lv_at hl 1 rfl) ?_
        refine lv_if_eq (tgt := 60) hx hb dL_isPaper_49 (by decide) (fun c_35 => absurd c_35 (by decide)) (fun _ => ?_)
        refine lv_bipush (v := 10) hx hb dL_isPaper_52 (by decide) ?_
        refine lv_iload hx hb dL_isPaper_54 (lv_at hl 8 rfl) ?_
        refine lv_imul hx hb dL_isPaper_56 ?_
        refine lv_eqi (pk_mul 10 i) ?_
        refine lv_goto (tgt := 61) hx hb dL_isPaper_57 (by decide) ?_
        refine lv_istore (lv' := [(11, .int (nI (10 * i))), (10, .int (nI (t % 15))), (9, .int 1), (0, .ref x), (1, .ref (r 0)), (2, .ref (r 2)), (3, .ref (r 3)), (4, .ref (r 4)), (5, .int 0), (6, .int (nI i)), (7, .int (nI o)), (8, .int (nI t))]) hx hb dL_isPaper_61 hl (by decide) rfl (fun ls hl => ?_)
        refine lv_iload hx hb dL_isPaper_63 (lv_at hl 2 rfl) ?_
        refine lv_if_eq (tgt := 101) hx hb dL_isPaper_65 (by decide) (fun c_36 => absurd c_36 (by decide)) (fun _ => ?_)
        refine lv_aload_n hx hb dL_isPaper_68 rfl (lv_at hl 4 rfl) ?_
        refine lv_iload hx hb dL_isPaper_69 (lv_at hl 0 rfl) ?_
        refine lv_iconst (v := 4) hx hb dL_isPaper_71 (by decide) ?_
        refine lv_iadd hx hb dL_isPaper_72 ?_
        refine lv_eqi (nI_add (10 * i) 4) ?_
        refine l_iald (f := 0) (v := (B 2 i)) (by omega) hx hb hA hH (10 * i + 4) rfl (by rw [show lLen 0 = 60 from rfl]; omega) (hE.2.2.1 i (by omega)).1 dL_isPaper_73 ?_
        refine lv_iconst (v := 1) hx hb dL_isPaper_74 (by decide) ?_
        refine lv_icmp_eq (tgt := 97) hx hb dL_isPaper_75 (by decide) (fun c_37 => ?_) (fun c_37 => ?_)
        · have h2n : ¬ B 2 i = 0 := by rw [c_37]; decide
          refine lv_iconst (v := 1) hx hb dL_isPaper_97 (by decide) ?_
          refine lv_goto (tgt := 102) hx hb dL_isPaper_98 (by decide) ?_
          refine lv_istore (lv' := [(12, .int 1), (11, .int (nI (10 * i))), (10, .int (nI (t % 15))), (9, .int 1), (0, .ref x), (1, .ref (r 0)), (2, .ref (r 2)), (3, .ref (r 3)), (4, .ref (r 4)), (5, .int 0), (6, .int (nI i)), (7, .int (nI o)), (8, .int (nI t))]) hx hb dL_isPaper_102 hl (by decide) rfl (fun ls hl => ?_)
          refine lv_iload hx hb dL_isPaper_104 (lv_at hl 3 rfl) ?_
          refine lv_if_eq (tgt := 121) hx hb dL_isPaper_106 (by decide) (fun c_38 => absurd c_38 (by decide)) (fun _ => ?_)
          refine lv_iload hx hb dL_isPaper_109 (lv_at hl 2 rfl) ?_
          refine lv_bipush (v := 100) hx hb dL_isPaper_111 (by decide) ?_
          refine lv_icmp_gt (tgt := 121) hx hb dL_isPaper_113 (by decide) (fun c_39 => absurd ((nI_ltI (a := 100) (b := t % 15) (by omega) (by omega)).mp c_39) (by omega)) (fun _ => ?_)
          refine lv_iload hx hb dL_isPaper_116 (lv_at hl 0 rfl) ?_
          refine lv_if_eq (tgt := 179) hx hb dL_isPaper_118 (by decide) (fun c_40 => absurd c_40 (by decide)) (fun _ => ?_)
          refine lv_aload_n hx hb dL_isPaper_121 rfl (lv_at hl 4 rfl) ?_
          refine lv_iconst (v := 1) hx hb dL_isPaper_122 (by decide) ?_
          refine lv_iload hx hb dL_isPaper_123 (lv_at hl 9 rfl) ?_
          refine lv_iadd hx hb dL_isPaper_125 ?_
          refine lv_eqi (show (1 + 0 : Int32) = 1 from rfl) ?_
          refine lv_iload hx hb dL_isPaper_126 (lv_at hl 10 rfl) ?_
          refine lv_iload hx hb dL_isPaper_128 (lv_at hl 9 rfl) ?_
          refine lv_if_ne (tgt := 138) hx hb dL_isPaper_130 (by decide) (fun c_41 => absurd c_41 (by decide)) (fun _ => ?_)
          refine lv_iload hx hb dL_isPaper_133 (lv_at hl 11 rfl) ?_
          refine lv_goto (tgt := 140) hx hb dL_isPaper_135 (by decide) ?_
          refine lv_iload hx hb dL_isPaper_140 (lv_at hl 2 rfl) ?_
          refine lv_iconst (v := 0) hx hb dL_isPaper_142 (by decide) ?_
          refine z_xcalli (vx_runSX (As := [.ref x, .int 1, .int (nI i), .int (nI o), .int (nI (t % 15)), .int 0]) (rest := []) ⟨hx, hb, hml, hown, hts⟩ (zd_course l hl9 D cy base x r n B A (nI i) (nI o) (nI (t % 15)) 0) (vx_cwSW 6 hts gL_isPaper_L_does rfl rfl rfl (by decide +kernel) ⟨Nat.le_of_ble_eq_true rfl, Nat.le_of_ble_eq_true rfl⟩) (z_preS hA hS hH) rfl rfl hl.1 rfl (lv_room (Nat.le_of_ble_eq_true rfl)) dL_isPaper_143 ⟨(by show _ ≤ (14 : Nat); omega), (by show _ ≤ (120 : Nat); omega)⟩) hS (fun E9 ce9 q9 u9 H locs hw9 hH hz9 hS hce9 hv9 hcl9 => hw9.elim) (fun r_k_42 u_k_42 H locs hw_k_42 hH hz_k_42 hS => ?_)
          rcases hw_k_42 with ⟨hc_k_42, rfl, hu_k_42⟩ | ⟨hc_k_42, rfl, hu_k_42⟩ | ⟨hc_k_42, rfl, hu_k_42⟩ | ⟨hc_k_42, rfl, hu_k_42⟩
          · exact absurd (hc_k_42.symm.trans (cdCourse3 (o := o) (d := t % 15) hJ.1 hi hix (by omega) (by omega) (Or.inl h2n))) (by decide)
          · exact absurd (hc_k_42.symm.trans (cdCourse3 (o := o) (d := t % 15) hJ.1 hi hix (by omega) (by omega) (Or.inl h2n))) (by decide)
          · exact absurd (hc_k_42.symm.trans (cdCourse3 (o := o) (d := t % 15) hJ.1 hi hix (by omega) (by omega) (Or.inl h2n))) (by decide)
          · rw [hu_k_42] at hH
            have hJ_k_42 := lH_J hH
            refine lv_iload hx hb dL_isPaper_146 (lv_at hl 3 rfl) ?_
            refine lv_if_ne (tgt := 156) hx hb dL_isPaper_148 (by decide) (fun _ => ?_) (fun c_43 => absurd c_43 (by decide))
            refine lv_iload hx hb dL_isPaper_156 (lv_at hl 2 rfl) ?_
            refine lv_bipush (v := 100) hx hb dL_isPaper_158 (by decide) ?_
            refine lv_icmp_le (tgt := 168) hx hb dL_isPaper_160 (by decide) (fun _ => ?_) (fun c_44 => absurd ((nI_leI (a := t % 15) (b := 100) (by omega) (by omega)).mpr (by omega)) c_44)
            refine lv_bipush (v := (-10)) hx hb dL_isPaper_168 (by decide) ?_
            refine lv_icmp_ne (tgt := 177) hx hb dL_isPaper_170 (by decide) (fun c_45 => absurd c_45 (by decide)) (fun _ => ?_)
            refine lv_iconst (v := 1) hx hb dL_isPaper_173 (by decide) ?_
            refine lv_goto (tgt := 178) hx hb dL_isPaper_174 (by decide) ?_
            exact z_zret hx hb hr hlocks hH hS rfl (⟨rfl, hE, hY⟩) (by omega) (by omega) dL_isPaper_178
        · have h2 : B 2 i = 0 := (hJ.2.1.1 i hi).2.1.resolve_right c_37
          refine lv_aload_n hx hb dL_isPaper_78 rfl (lv_at hl 5 rfl) ?_
          refine lv_iconst (v := 3) hx hb dL_isPaper_79 (by decide) ?_
          refine lv_iload hx hb dL_isPaper_80 (lv_at hl 9 rfl) ?_
          refine lv_iadd hx hb dL_isPaper_82 ?_
          refine lv_eqi (nI_add 3 i) ?_
          refine l_iald (f := 2) (v := (A 2 (3 + i))) (by omega) hx hb hA hH (3 + i) rfl (by rw [show lLen 2 = 9 from rfl]; omega) rfl dL_isPaper_83 ?_
          refine lv_aload_n hx hb dL_isPaper_84 rfl (lv_at hl 4 rfl) ?_
          refine lv_iload hx hb dL_isPaper_85 (lv_at hl 0 rfl) ?_
          refine lv_bipush (v := 9) hx hb dL_isPaper_87 (by decide) ?_
          refine lv_iadd hx hb dL_isPaper_89 ?_
          refine lv_eqi (nI_add (10 * i) 9) ?_
          refine l_iald (f := 0) (v := (nI (oc B i))) (by omega) hx hb hA hH (10 * i + 9) rfl (by rw [show lLen 0 = 60 from rfl]; omega) ((hE.2.2.1 i (by omega)).2.2.2.2.2.1.trans (hE.2.2.2.1 i (by omega)).2.1) dL_isPaper_90 ?_
          refine lv_iadd hx hb dL_isPaper_91 ?_
          refine lv_eqi (show A 2 (3 + i) + nI (oc B i) = B 9 i by rw [← (hE.2.2.2.1 i (by omega)).2.1]; exact (hE.2.2.1 i (by omega)).2.2.2.2.2.2) ?_
          refine lv_bipush (v := 50) hx hb dL_isPaper_92 (by decide) ?_
          refine lv_icmp_ne (tgt := 101) hx hb dL_isPaper_94 (by decide) (fun c_46 => ?_) (fun c_46 => ?_)
          · refine lv_iconst (v := 0) hx hb dL_isPaper_101 (by decide) ?_
            refine lv_istore (lv' := [(12, .int 0), (11, .int (nI (10 * i))), (10, .int (nI (t % 15))), (9, .int 1), (0, .ref x), (1, .ref (r 0)), (2, .ref (r 2)), (3, .ref (r 3)), (4, .ref (r 4)), (5, .int 0), (6, .int (nI i)), (7, .int (nI o)), (8, .int (nI t))]) hx hb dL_isPaper_102 hl (by decide) rfl (fun ls hl => ?_)
            refine lv_iload hx hb dL_isPaper_104 (lv_at hl 3 rfl) ?_
            refine lv_if_eq (tgt := 121) hx hb dL_isPaper_106 (by decide) (fun c_47 => absurd c_47 (by decide)) (fun _ => ?_)
            refine lv_iload hx hb dL_isPaper_109 (lv_at hl 2 rfl) ?_
            refine lv_bipush (v := 100) hx hb dL_isPaper_111 (by decide) ?_
            refine lv_icmp_gt (tgt := 121) hx hb dL_isPaper_113 (by decide) (fun c_48 => absurd ((nI_ltI (a := 100) (b := t % 15) (by omega) (by omega)).mp c_48) (by omega)) (fun _ => ?_)
            refine lv_iload hx hb dL_isPaper_116 (lv_at hl 0 rfl) ?_
            refine lv_if_eq (tgt := 179) hx hb dL_isPaper_118 (by decide) (fun _ => ?_) (fun c_49 => absurd c_49 (by decide))
            refine lv_aload_n hx hb dL_isPaper_179 rfl (lv_at hl 4 rfl) ?_
            refine lv_iload hx hb dL_isPaper_180 (lv_at hl 10 rfl) ?_
            refine z_calli (va_runV (As := [.int (nI i)]) (rest := []) ⟨hx, hb, hml, hown, hts⟩ (cq_regime l hl9 D cy base x r n B A hJ.1 i hi) (cwV 1 hts gL_isPaper_X5_regime rfl rfl rfl (by decide +kernel) ⟨Nat.le_of_ble_eq_true rfl, Nat.le_of_ble_eq_true rfl⟩) (z_preV hA hS hH (l_recv hA hH)) rfl rfl hl.1 rfl (lv_room (Nat.le_of_ble_eq_true rfl)) dL_isPaper_182 ⟨(by show _ ≤ (14 : Nat); omega), (by show _ ≤ (120 : Nat); omega)⟩) hS (fun r_k_50 u_k_50 H locs hw_k_50 hH hz_k_50 hS => ?_)
            obtain ⟨rfl, hu_k_50⟩ := hw_k_50
            rw [hu_k_50] at hH
            refine lv_istore (lv' := [(13, .int (B 6 i)), (12, .int 0), (11, .int (nI (10 * i))), (10, .int (nI (t % 15))), (9, .int 1), (0, .ref x), (1, .ref (r 0)), (2, .ref (r 2)), (3, .ref (r 3)), (4, .ref (r 4)), (5, .int 0), (6, .int (nI i)), (7, .int (nI o)), (8, .int (nI t))]) hx hb dL_isPaper_185 hl (by decide) rfl (fun ls hl => ?_)
            refine lv_iload hx hb dL_isPaper_187 (lv_at hl 10 rfl) ?_
            refine lv_if_ne (tgt := 277) hx hb dL_isPaper_189 (by decide) (fun c_51 => absurd c_51 (by decide)) (fun _ => ?_)
            refine lv_aload_n hx hb dL_isPaper_192 rfl (lv_at hl 6 rfl) ?_
            refine lv_iload hx hb dL_isPaper_193 (lv_at hl 2 rfl) ?_
            refine lv_iconst (v := 2) hx hb dL_isPaper_195 (by decide) ?_
            refine lv_iadd hx hb dL_isPaper_196 ?_
            refine lv_eqi (nI_add (10 * i) 2) ?_
            refine lv_dup2_11 hx hb dL_isPaper_197 rfl rfl ?_
            refine l_iald (f := 0) (v := (B 5 i)) (by omega) hx hb hA hH (10 * i + 2) rfl (by rw [show lLen 0 = 60 from rfl]; omega) (hE.2.1 i hi).2.2.1 dL_isPaper_198 ?_
            refine lv_iconst (v := 1) hx hb dL_isPaper_199 (by decide) ?_
            refine lv_iload hx hb dL_isPaper_200 (lv_at hl 12 rfl) ?_
            refine lv_ishl hx hb dL_isPaper_202 ?_
            refine lv_ior hx hb dL_isPaper_203 ?_
            refine l_iast (f := 0) (by omega) hx hb hA hH hS (10 * i + 2) rfl (by rw [show lLen 0 = 60 from rfl]; omega) dL_isPaper_204 (fun H locs hH hS => ?_)
            refine lv_aload_n hx hb dL_isPaper_205 rfl (lv_at hl 7 rfl) ?_
            refine lv_iconst (v := 3) hx hb dL_isPaper_206 (by decide) ?_
            refine lv_iload hx hb dL_isPaper_207 (lv_at hl 11 rfl) ?_
            refine lv_iadd hx hb dL_isPaper_209 ?_
            refine lv_eqi (nI_add 3 i) ?_
            refine lv_dup2_11 hx hb dL_isPaper_210 rfl rfl ?_
            refine l_iald (f := 2) (v := (A 2 (3 + i))) (by omega) hx hb hA hH (3 + i) rfl (by rw [show lLen 2 = 9 from rfl]; omega) rfl dL_isPaper_211 ?_
            refine lv_iconst (v := 1) hx hb dL_isPaper_212 (by decide) ?_
            refine lv_iadd hx hb dL_isPaper_213 ?_
            refine l_iast (f := 2) (by omega) hx hb hA hH hS (3 + i) rfl (by rw [show lLen 2 = 9 from rfl]; omega) dL_isPaper_214 (fun H locs hH hS => ?_)
            refine lv_aload_n hx hb dL_isPaper_215 rfl (lv_at hl 6 rfl) ?_
            refine lv_iload hx hb dL_isPaper_216 (lv_at hl 2 rfl) ?_
            refine lv_bipush (v := 7) hx hb dL_isPaper_218 (by decide) ?_
            refine lv_iadd hx hb dL_isPaper_220 ?_
            refine lv_eqi (nI_add (10 * i) 7) ?_
            refine lv_dup2_11 hx hb dL_isPaper_221 rfl rfl ?_
            refine l_iald (f := 0) (v := (B 8 i)) (by omega) hx hb hA hH (10 * i + 7) rfl (by rw [show lLen 0 = 60 from rfl]; omega) ((show (z2 (z2 A 0 (10 * i + 2) ((B 5 i) ||| (1 <<< ((nI o) &&& 31)))) 2 (3 + i) ((A 2 (3 + i)) + 1)) 0 (10 * i + 7) = (A 0 (10 * i + 7)) from by simp [z2_ap]).trans (hE.2.2.1 i (by omega)).2.2.2.1) dL_isPaper_222 ?_
            refine lv_iload hx hb dL_isPaper_223 (lv_at hl 3 rfl) ?_
            refine lv_iadd hx hb dL_isPaper_225 ?_
            refine l_iast (f := 0) (by omega) hx hb hA hH hS (10 * i + 7) rfl (by rw [show lLen 0 = 60 from rfl]; omega) dL_isPaper_226 (fun H locs hH hS => ?_)
            refine lv_aload_n hx hb dL_isPaper_227 rfl (lv_at hl 5 rfl) ?_
            refine lv_iconst (v := 1) hx hb dL_isPaper_228 (by decide) ?_
            refine lv_iload hx hb dL_isPaper_229 (lv_at hl 11 rfl) ?_
            refine lv_iload hx hb dL_isPaper_231 (lv_at hl 12 rfl) ?_
            refine lv_iload hx hb dL_isPaper_233 (lv_at hl 3 rfl) ?_
            refine lv_iconst (v := 0) hx hb dL_isPaper_235 (by decide) ?_
            refine z_xcalli (vx_runSX (As := [.ref x, .int 1, .int (nI i), .int (nI o), .int (nI (t % 15)), .int 0]) (rest := []) ⟨hx, hb, hml, hown, hts⟩ (zd_course l hl9 D cy base x r n B (z2 (z2 (z2 A 0 (10 * i + 2) ((B 5 i) ||| (1 <<< ((nI o) &&& 31)))) 2 (3 + i) ((A 2 (3 + i)) + 1)) 0 (10 * i + 7) ((B 8 i) + (nI (t % 15)))) (nI i) (nI o) (nI (t % 15)) 0) (vx_cwSW 6 hts gL_isPaper_L_does rfl rfl rfl (by decide +kernel) ⟨Nat.le_of_ble_eq_true rfl, Nat.le_of_ble_eq_true rfl⟩) (z_preS hA hS hH) rfl rfl hl.1 rfl (lv_room (Nat.le_of_ble_eq_true rfl)) dL_isPaper_236 ⟨(by show _ ≤ (14 : Nat); omega), (by show _ ≤ (120 : Nat); omega)⟩) hS (fun E9 ce9 q9 u9 H locs hw9 hH hz9 hS hce9 hv9 hcl9 => hw9.elim) (fun r_k_52 u_k_52 H locs hw_k_52 hH hz_k_52 hS => ?_)
            rcases hw_k_52 with ⟨hc_k_52, rfl, hu_k_52⟩ | ⟨hc_k_52, rfl, hu_k_52⟩ | ⟨hc_k_52, rfl, hu_k_52⟩ | ⟨hc_k_52, rfl, hu_k_52⟩
            · rw [hu_k_52] at hH
              have hJ_k_52 := lH_J hH
              refine lv_eqi (show an_course B (nI i) (nI o) (nI (t % 15)) = sRel (up_course B (nI i) (nI o) (nI (t % 15))) i from congrArg (sRel _) hix) ?_
              have hE2 := JE_course (sk := nI o) (days := nI (t % 15)) hE hi hix
              refine lv_aload_n hx hb dL_isPaper_239 rfl (lv_at hl 6 rfl) ?_
              refine lv_iload hx hb dL_isPaper_240 (lv_at hl 11 rfl) ?_
              refine z_calli (va_runS (As := [.ref (r 0), .int (nI i)]) (rest := [.int (sRel (up_course B (nI i) (nI o) (nI (t % 15))) i)]) ⟨hx, hb, hml, hown, hts⟩ (zl_due l hl9 D cy base x r n (up_course B (nI i) (nI o) (nI (t % 15))) (z2 (z2 (z2 A 0 (10 * i + 2) ((B 5 i) ||| (1 <<< ((nI o) &&& 31)))) 2 (3 + i) ((A 2 (3 + i)) + 1)) 0 (10 * i + 7) ((B 8 i) + (nI (t % 15)))) (by omega) i (by omega)) (va_cwS 2 hts gL_isPaper_L_due rfl rfl rfl (by decide +kernel) ⟨Nat.le_of_ble_eq_true rfl, Nat.le_of_ble_eq_true rfl⟩) (z_preS hA hS hH) rfl rfl hl.1 rfl (lv_room (Nat.le_of_ble_eq_true rfl)) dL_isPaper_242 ⟨(by show _ ≤ (14 : Nat); omega), (by show _ ≤ (120 : Nat); omega)⟩) hS (fun r_k_53 u_k_53 H locs hw_k_53 hH hz_k_53 hS => ?_)
              obtain ⟨rfl, hu_k_53⟩ := hw_k_53
              rw [hu_k_53] at hH
              refine lv_eqi (show dF ((z2 (z2 (z2 A 0 (10 * i + 2) ((B 5 i) ||| (1 <<< ((nI o) &&& 31)))) 2 (3 + i) ((A 2 (3 + i)) + 1)) 0 (10 * i + 7) ((B 8 i) + (nI (t % 15)))) 0) i = (sRel (up_course B (nI i) (nI o) (nI (t % 15))) i) from dF_rel hE2 hi (Or.inl h2)) ?_
              refine lv_icmp_ne (tgt := 275) hx hb dL_isPaper_245 (by decide) (fun c9 => absurd rfl c9) (fun _ => ?_)
              refine lv_aload_n hx hb dL_isPaper_248 rfl (lv_at hl 5 rfl) ?_
              refine lv_iload hx hb dL_isPaper_249 (lv_at hl 11 rfl) ?_
              refine z_calli (va_runV (As := [.int (nI i)]) (rest := []) ⟨hx, hb, hml, hown, hts⟩ (cq_regime l hl9 D cy base x r n (up_course B (nI i) (nI o) (nI (t % 15))) (z2 (z2 (z2 A 0 (10 * i + 2) ((B 5 i) ||| (1 <<< ((nI o) &&& 31)))) 2 (3 + i) ((A 2 (3 + i)) + 1)) 0 (10 * i + 7) ((B 8 i) + (nI (t % 15)))) hJ_k_52.1 i hi) (cwV 1 hts gL_isPaper_X5_regime rfl rfl rfl (by decide +kernel) ⟨Nat.le_of_ble_eq_true rfl, Nat.le_of_ble_eq_true rfl⟩) (z_preV hA hS hH (l_recv hA hH)) rfl rfl hl.1 rfl (lv_room (Nat.le_of_ble_eq_true rfl)) dL_isPaper_251 ⟨(by show _ ≤ (14 : Nat); omega), (by show _ ≤ (120 : Nat); omega)⟩) hS (fun r_k_54 u_k_54 H locs hw_k_54 hH hz_k_54 hS => ?_)
              obtain ⟨rfl, hu_k_54⟩ := hw_k_54
              rw [hu_k_54] at hH
              refine lv_iload hx hb dL_isPaper_254 (lv_at hl 0 rfl) ?_
              refine lv_iconst (v := 2) hx hb dL_isPaper_256 (by decide) ?_
              refine lv_icmp_ge (tgt := 267) hx hb dL_isPaper_257 (by decide) (fun c_55 => ?_) (fun c_55 => ?_)
              · refine lv_iconst (v := 2) hx hb dL_isPaper_267 (by decide) ?_
                refine lv_icmp_ne (tgt := 275) hx hb dL_isPaper_268 (by decide) (fun c_56 => absurd (show up_course B (nI i) (nI o) (nI (t % 15)) 6 i = 2 by rw [rg_course hix]; exact rgc1 (hJ.2.1.1 i hi).1 c_55) c_56) (fun _ => ?_)
                refine lv_iconst (v := 1) hx hb dL_isPaper_271 (by decide) ?_
                refine lv_goto (tgt := 276) hx hb dL_isPaper_272 (by decide) ?_
                exact z_zret hx hb hr hlocks hH hS rfl (⟨rfl, hE2, JX_course hY⟩) (by omega) (by omega) dL_isPaper_276
              · refine lv_iload hx hb dL_isPaper_260 (lv_at hl 0 rfl) ?_
                refine lv_iconst (v := 1) hx hb dL_isPaper_262 (by decide) ?_
                refine lv_iadd hx hb dL_isPaper_263 ?_
                refine lv_goto (tgt := 268) hx hb dL_isPaper_264 (by decide) ?_
                refine lv_icmp_ne (tgt := 275) hx hb dL_isPaper_268 (by decide) (fun c_57 => absurd (show up_course B (nI i) (nI o) (nI (t % 15)) 6 i = B 6 i + 1 by rw [rg_course hix]; exact rgc0 c_55) c_57) (fun _ => ?_)
                refine lv_iconst (v := 1) hx hb dL_isPaper_271 (by decide) ?_
                refine lv_goto (tgt := 276) hx hb dL_isPaper_272 (by decide) ?_
                exact z_zret hx hb hr hlocks hH hS rfl (⟨rfl, hE2, JX_course hY⟩) (by omega) (by omega) dL_isPaper_276
            · exact absurd (hc_k_52.symm.trans (cdCourse0 (o := o) (d := t % 15) hJ.1 hi hix (by omega) (by omega) h2 c_46)) (by decide)
            · exact absurd (hc_k_52.symm.trans (cdCourse0 (o := o) (d := t % 15) hJ.1 hi hix (by omega) (by omega) h2 c_46)) (by decide)
            · exact absurd (hc_k_52.symm.trans (cdCourse0 (o := o) (d := t % 15) hJ.1 hi hix (by omega) (by omega) h2 c_46)) (by decide)
          · refine lv_iconst (v := 1) hx hb dL_isPaper_97 (by decide) ?_
            refine lv_goto (tgt := 102) hx hb dL_isPaper_98 (by decide) ?_
            refine lv_istore (lv' := [(12, .int 1), (11, .int (nI (10 * i))), (10, .int (nI (t % 15))), (9, .int 1), (0, .ref x), (1, .ref (r 0)), (2, .ref (r 2)), (3, .ref (r 3)), (4, .ref (r 4)), (5, .int 0), (6, .int (nI i)), (7, .int (nI o)), (8, .int (nI t))]) hx hb dL_isPaper_102 hl (by decide) rfl (fun ls hl => ?_)
            refine lv_iload hx hb dL_isPaper_104 (lv_at hl 3 rfl) ?_
            refine lv_if_eq (tgt := 121) hx hb dL_isPaper_106 (by decide) (fun c_58 => absurd c_58 (by decide)) (fun _ => ?_)
            refine lv_iload hx hb dL_isPaper_109 (lv_at hl 2 rfl) ?_
            refine lv_bipush (v := 100) hx hb dL_isPaper_111 (by decide) ?_
            refine lv_icmp_gt (tgt := 121) hx hb dL_isPaper_113 (by decide) (fun c_59 => absurd ((nI_ltI (a := 100) (b := t % 15) (by omega) (by omega)).mp c_59) (by omega)) (fun _ => ?_)
            refine lv_iload hx hb dL_isPaper_116 (lv_at hl 0 rfl) ?_
            refine lv_if_eq (tgt := 179) hx hb dL_isPaper_118 (by decide) (fun c_60 => absurd c_60 (by decide)) (fun _ => ?_)
            refine lv_aload_n hx hb dL_isPaper_121 rfl (lv_at hl 4 rfl) ?_
            refine lv_iconst (v := 1) hx hb dL_isPaper_122 (by decide) ?_
            refine lv_iload hx hb dL_isPaper_123 (lv_at hl 9 rfl) ?_
            refine lv_iadd hx hb dL_isPaper_125 ?_
            refine lv_eqi (show (1 + 0 : Int32) = 1 from rfl) ?_
            refine lv_iload hx hb dL_isPaper_126 (lv_at hl 10 rfl) ?_
            refine lv_iload hx hb dL_isPaper_128 (lv_at hl 9 rfl) ?_
            refine lv_if_ne (tgt := 138) hx hb dL_isPaper_130 (by decide) (fun c_61 => absurd c_61 (by decide)) (fun _ => ?_)
            refine lv_iload hx hb dL_isPaper_133 (lv_at hl 11 rfl) ?_
            refine lv_goto (tgt := 140) hx hb dL_isPaper_135 (by decide) ?_
            refine lv_iload hx hb dL_isPaper_140 (lv_at hl 2 rfl) ?_
            refine lv_iconst (v := 0) hx hb dL_isPaper_142 (by decide) ?_
            refine z_xcalli (vx_runSX (As := [.ref x, .int 1, .int (nI i), .int (nI o), .int (nI (t % 15)), .int 0]) (rest := []) ⟨hx, hb, hml, hown, hts⟩ (zd_course l hl9 D cy base x r n B A (nI i) (nI o) (nI (t % 15)) 0) (vx_cwSW 6 hts gL_isPaper_L_does rfl rfl rfl (by decide +kernel) ⟨Nat.le_of_ble_eq_true rfl, Nat.le_of_ble_eq_true rfl⟩) (z_preS hA hS hH) rfl rfl hl.1 rfl (lv_room (Nat.le_of_ble_eq_true rfl)) dL_isPaper_143 ⟨(by show _ ≤ (14 : Nat); omega), (by show _ ≤ (120 : Nat); omega)⟩) hS (fun E9 ce9 q9 u9 H locs hw9 hH hz9 hS hce9 hv9 hcl9 => hw9.elim) (fun r_k_62 u_k_62 H locs hw_k_62 hH hz_k_62 hS => ?_)
            rcases hw_k_62 with ⟨hc_k_62, rfl, hu_k_62⟩ | ⟨hc_k_62, rfl, hu_k_62⟩ | ⟨hc_k_62, rfl, hu_k_62⟩ | ⟨hc_k_62, rfl, hu_k_62⟩
            · exact absurd (hc_k_62.symm.trans (cdCourse3 (o := o) (d := t % 15) hJ.1 hi hix (by omega) (by omega) (Or.inr c_46))) (by decide)
            · exact absurd (hc_k_62.symm.trans (cdCourse3 (o := o) (d := t % 15) hJ.1 hi hix (by omega) (by omega) (Or.inr c_46))) (by decide)
            · exact absurd (hc_k_62.symm.trans (cdCourse3 (o := o) (d := t % 15) hJ.1 hi hix (by omega) (by omega) (Or.inr c_46))) (by decide)
            · rw [hu_k_62] at hH
              have hJ_k_62 := lH_J hH
              refine lv_iload hx hb dL_isPaper_146 (lv_at hl 3 rfl) ?_
              refine lv_if_ne (tgt := 156) hx hb dL_isPaper_148 (by decide) (fun _ => ?_) (fun c_63 => absurd c_63 (by decide))
              refine lv_iload hx hb dL_isPaper_156 (lv_at hl 2 rfl) ?_
              refine lv_bipush (v := 100) hx hb dL_isPaper_158 (by decide) ?_
              refine lv_icmp_le (tgt := 168) hx hb dL_isPaper_160 (by decide) (fun _ => ?_) (fun c_64 => absurd ((nI_leI (a := t % 15) (b := 100) (by omega) (by omega)).mpr (by omega)) c_64)
              refine lv_bipush (v := (-10)) hx hb dL_isPaper_168 (by decide) ?_
              refine lv_icmp_ne (tgt := 177) hx hb dL_isPaper_170 (by decide) (fun c_65 => absurd c_65 (by decide)) (fun _ => ?_)
              refine lv_iconst (v := 1) hx hb dL_isPaper_173 (by decide) ?_
              refine lv_goto (tgt := 178) hx hb dL_isPaper_174 (by decide) ?_
              exact z_zret hx hb hr hlocks hH hS rfl (⟨rfl, hE, hY⟩) (by omega) (by omega) dL_isPaper_178
      · have c_34 := (nI_eq (a := t % 30) (b := 0) (by omega) (by omega)).mp c_34
        refine lv_bipush (v := 101) hx hb dL_isPaper_35 (by decide) ?_
        refine lv_goto (tgt := 45) hx hb dL_isPaper_37 (by decide) ?_
        refine lv_istore (lv' := [(10, .int 101), (9, .int 1), (0, .ref x), (1, .ref (r 0)), (2, .ref (r 2)), (3, .ref (r 3)), (4, .ref (r 4)), (5, .int 0), (6, .int (nI i)), (7, .int (nI o)), (8, .int (nI t))]) hx hb dL_isPaper_45 hl (by decide) rfl (fun ls hl => ?_)
        refine lv_iload hx hb dL_isPaper_47 (lv_at hl 1 rfl) ?_
        refine lv_if_eq (tgt := 60) hx hb dL_isPaper_49 (by decide) (fun c_66 => absurd c_66 (by decide)) (fun _ => ?_)
        refine lv_bipush (v := 10) hx hb dL_isPaper_52 (by decide) ?_
        refine lv_iload hx hb dL_isPaper_54 (lv_at hl 8 rfl) ?_
        refine lv_imul hx hb dL_isPaper_56 ?_
        refine lv_eqi (pk_mul 10 i) ?_
        refine lv_goto (tgt := 61) hx hb dL_isPaper_57 (by decide) ?_
        refine lv_istore (lv' := [(11, .int (nI (10 * i))), (10, .int 101), (9, .int 1), (0, .ref x), (1, .ref (r 0)), (2, .ref (r 2)), (3, .ref (r 3)), (4, .ref (r 4)), (5, .int 0), (6, .int (nI i)), (7, .int (nI o)), (8, .int (nI t))]) hx hb dL_isPaper_61 hl (by decide) rfl (fun ls hl => ?_)
        refine lv_iload hx hb dL_isPaper_63 (lv_at hl 2 rfl) ?_
        refine lv_if_eq (tgt := 101) hx hb dL_isPaper_65 (by decide) (fun c_67 => absurd c_67 (by decide)) (fun _ => ?_)
        refine lv_aload_n hx hb dL_isPaper_68 rfl (lv_at hl 4 rfl) ?_
        refine lv_iload hx hb dL_isPaper_69 (lv_at hl 0 rfl) ?_
        refine lv_iconst (v := 4) hx hb dL_isPaper_71 (by decide) ?_
        refine lv_iadd hx hb dL_isPaper_72 ?_
        refine lv_eqi (nI_add (10 * i) 4) ?_
        refine l_iald (f := 0) (v := (B 2 i)) (by omega) hx hb hA hH (10 * i + 4) rfl (by rw [show lLen 0 = 60 from rfl]; omega) (hE.2.2.1 i (by omega)).1 dL_isPaper_73 ?_
        refine lv_iconst (v := 1) hx hb dL_isPaper_74 (by decide) ?_
        refine lv_icmp_eq (tgt := 97) hx hb dL_isPaper_75 (by decide) (fun c_68 => ?_) (fun c_68 => ?_)
        · have h2n : ¬ B 2 i = 0 := by rw [c_68]; decide
          refine lv_iconst (v := 1) hx hb dL_isPaper_97 (by decide) ?_
          refine lv_goto (tgt := 102) hx hb dL_isPaper_98 (by decide) ?_
          refine lv_istore (lv' := [(12, .int 1), (11, .int (nI (10 * i))), (10, .int 101), (9, .int 1), (0, .ref x), (1, .ref (r 0)), (2, .ref (r 2)), (3, .ref (r 3)), (4, .ref (r 4)), (5, .int 0), (6, .int (nI i)), (7, .int (nI o)), (8, .int (nI t))]) hx hb dL_isPaper_102 hl (by decide) rfl (fun ls hl => ?_)
          refine lv_iload hx hb dL_isPaper_104 (lv_at hl 3 rfl) ?_
          refine lv_if_eq (tgt := 121) hx hb dL_isPaper_106 (by decide) (fun c_69 => absurd c_69 (by decide)) (fun _ => ?_)
          refine lv_iload hx hb dL_isPaper_109 (lv_at hl 2 rfl) ?_
          refine lv_bipush (v := 100) hx hb dL_isPaper_111 (by decide) ?_
          refine lv_icmp_gt (tgt := 121) hx hb dL_isPaper_113 (by decide) (fun _ => ?_) (fun c_70 => absurd c_70 (by decide))
          refine lv_aload_n hx hb dL_isPaper_121 rfl (lv_at hl 4 rfl) ?_
          refine lv_iconst (v := 1) hx hb dL_isPaper_122 (by decide) ?_
          refine lv_iload hx hb dL_isPaper_123 (lv_at hl 9 rfl) ?_
          refine lv_iadd hx hb dL_isPaper_125 ?_
          refine lv_eqi (show (1 + 0 : Int32) = 1 from rfl) ?_
          refine lv_iload hx hb dL_isPaper_126 (lv_at hl 10 rfl) ?_
          refine lv_iload hx hb dL_isPaper_128 (lv_at hl 9 rfl) ?_
          refine lv_if_ne (tgt := 138) hx hb dL_isPaper_130 (by decide) (fun c_71 => absurd c_71 (by decide)) (fun _ => ?_)
          refine lv_iload hx hb dL_isPaper_133 (lv_at hl 11 rfl) ?_
          refine lv_goto (tgt := 140) hx hb dL_isPaper_135 (by decide) ?_
          refine lv_iload hx hb dL_isPaper_140 (lv_at hl 2 rfl) ?_
          refine lv_iconst (v := 0) hx hb dL_isPaper_142 (by decide) ?_
          refine z_xcalli (vx_runSX (As := [.ref x, .int 1, .int (nI i), .int (nI o), .int 101, .int 0]) (rest := []) ⟨hx, hb, hml, hown, hts⟩ (zd_course l hl9 D cy base x r n B A (nI i) (nI o) 101 0) (vx_cwSW 6 hts gL_isPaper_L_does rfl rfl rfl (by decide +kernel) ⟨Nat.le_of_ble_eq_true rfl, Nat.le_of_ble_eq_true rfl⟩) (z_preS hA hS hH) rfl rfl hl.1 rfl (lv_room (Nat.le_of_ble_eq_true rfl)) dL_isPaper_143 ⟨(by show _ ≤ (14 : Nat); omega), (by show _ ≤ (120 : Nat); omega)⟩) hS (fun E9 ce9 q9 u9 H locs hw9 hH hz9 hS hce9 hv9 hcl9 => hw9.elim) (fun r_k_72 u_k_72 H locs hw_k_72 hH hz_k_72 hS => ?_)
          rcases hw_k_72 with ⟨hc_k_72, rfl, hu_k_72⟩ | ⟨hc_k_72, rfl, hu_k_72⟩ | ⟨hc_k_72, rfl, hu_k_72⟩ | ⟨hc_k_72, rfl, hu_k_72⟩
          · exact absurd (hc_k_72.symm.trans (cdCourse2 (o := o) (d := 101) hJ.1 hi (by omega) (by omega) (by omega))) (by decide)
          · exact absurd (hc_k_72.symm.trans (cdCourse2 (o := o) (d := 101) hJ.1 hi (by omega) (by omega) (by omega))) (by decide)
          · rw [hu_k_72] at hH
            have hJ_k_72 := lH_J hH
            refine lv_iload hx hb dL_isPaper_146 (lv_at hl 3 rfl) ?_
            refine lv_if_ne (tgt := 156) hx hb dL_isPaper_148 (by decide) (fun _ => ?_) (fun c_73 => absurd c_73 (by decide))
            refine lv_iload hx hb dL_isPaper_156 (lv_at hl 2 rfl) ?_
            refine lv_bipush (v := 100) hx hb dL_isPaper_158 (by decide) ?_
            refine lv_icmp_le (tgt := 168) hx hb dL_isPaper_160 (by decide) (fun c_74 => absurd c_74 (by decide)) (fun _ => ?_)
            refine lv_bipush (v := (-20)) hx hb dL_isPaper_163 (by decide) ?_
            refine lv_goto (tgt := 170) hx hb dL_isPaper_165 (by decide) ?_
            refine lv_icmp_ne (tgt := 177) hx hb dL_isPaper_170 (by decide) (fun c_75 => absurd c_75 (by decide)) (fun _ => ?_)
            refine lv_iconst (v := 1) hx hb dL_isPaper_173 (by decide) ?_
            refine lv_goto (tgt := 178) hx hb dL_isPaper_174 (by decide) ?_
            exact z_zret hx hb hr hlocks hH hS rfl (⟨rfl, hE, hY⟩) (by omega) (by omega) dL_isPaper_178
          · exact absurd (hc_k_72.symm.trans (cdCourse2 (o := o) (d := 101) hJ.1 hi (by omega) (by omega) (by omega))) (by decide)
        · have h2 : B 2 i = 0 := (hJ.2.1.1 i hi).2.1.resolve_right c_68
          refine lv_aload_n hx hb dL_isPaper_78 rfl (lv_at hl 5 rfl) ?_
          refine lv_iconst (v := 3) hx hb dL_isPaper_79 (by decide) ?_
          refine lv_iload hx hb dL_isPaper_80 (lv_at hl 9 rfl) ?_
          refine lv_iadd hx hb dL_isPaper_82 ?_
          refine lv_eqi (nI_add 3 i) ?_
          refine l_iald (f := 2) (v := (A 2 (3 + i))) (by omega) hx hb hA hH (3 + i) rfl (by rw [show lLen 2 = 9 from rfl]; omega) rfl dL_isPaper_83 ?_
          refine lv_aload_n hx hb dL_isPaper_84 rfl (lv_at hl 4 rfl) ?_
          refine lv_iload hx hb dL_isPaper_85 (lv_at hl 0 rfl) ?_
          refine lv_bipush (v := 9) hx hb dL_isPaper_87 (by decide) ?_
          refine lv_iadd hx hb dL_isPaper_89 ?_
          refine lv_eqi (nI_add (10 * i) 9) ?_
          refine l_iald (f := 0) (v := (nI (oc B i))) (by omega) hx hb hA hH (10 * i + 9) rfl (by rw [show lLen 0 = 60 from rfl]; omega) ((hE.2.2.1 i (by omega)).2.2.2.2.2.1.trans (hE.2.2.2.1 i (by omega)).2.1) dL_isPaper_90 ?_
          refine lv_iadd hx hb dL_isPaper_91 ?_
          refine lv_eqi (show A 2 (3 + i) + nI (oc B i) = B 9 i by rw [← (hE.2.2.2.1 i (by omega)).2.1]; exact (hE.2.2.1 i (by omega)).2.2.2.2.2.2) ?_
          refine lv_bipush (v := 50) hx hb dL_isPaper_92 (by decide) ?_
          refine lv_icmp_ne (tgt := 101) hx hb dL_isPaper_94 (by decide) (fun c_76 => ?_) (fun c_76 => ?_)
          · refine lv_iconst (v := 0) hx hb dL_isPaper_101 (by decide) ?_
            refine lv_istore (lv' := [(12, .int 0), (11, .int (nI (10 * i))), (10, .int 101), (9, .int 1), (0, .ref x), (1, .ref (r 0)), (2, .ref (r 2)), (3, .ref (r 3)), (4, .ref (r 4)), (5, .int 0), (6, .int (nI i)), (7, .int (nI o)), (8, .int (nI t))]) hx hb dL_isPaper_102 hl (by decide) rfl (fun ls hl => ?_)
            refine lv_iload hx hb dL_isPaper_104 (lv_at hl 3 rfl) ?_
            refine lv_if_eq (tgt := 121) hx hb dL_isPaper_106 (by decide) (fun c_77 => absurd c_77 (by decide)) (fun _ => ?_)
            refine lv_iload hx hb dL_isPaper_109 (lv_at hl 2 rfl) ?_
            refine lv_bipush (v := 100) hx hb dL_isPaper_111 (by decide) ?_
            refine lv_icmp_gt (tgt := 121) hx hb dL_isPaper_113 (by decide) (fun _ => ?_) (fun c_78 => absurd c_78 (by decide))
            refine lv_aload_n hx hb dL_isPaper_121 rfl (lv_at hl 4 rfl) ?_
            refine lv_iconst (v := 1) hx hb dL_isPaper_122 (by decide) ?_
            refine lv_iload hx hb dL_isPaper_123 (lv_at hl 9 rfl) ?_
            refine lv_iadd hx hb dL_isPaper_125 ?_
            refine lv_eqi (show (1 + 0 : Int32) = 1 from rfl) ?_
            refine lv_iload hx hb dL_isPaper_126 (lv_at hl 10 rfl) ?_
            refine lv_iload hx hb dL_isPaper_128 (lv_at hl 9 rfl) ?_
            refine lv_if_ne (tgt := 138) hx hb dL_isPaper_130 (by decide) (fun c_79 => absurd c_79 (by decide)) (fun _ => ?_)
            refine lv_iload hx hb dL_isPaper_133 (lv_at hl 11 rfl) ?_
            refine lv_goto (tgt := 140) hx hb dL_isPaper_135 (by decide) ?_
            refine lv_iload hx hb dL_isPaper_140 (lv_at hl 2 rfl) ?_
            refine lv_iconst (v := 0) hx hb dL_isPaper_142 (by decide) ?_
            refine z_xcalli (vx_runSX (As := [.ref x, .int 1, .int (nI i), .int (nI o), .int 101, .int 0]) (rest := []) ⟨hx, hb, hml, hown, hts⟩ (zd_course l hl9 D cy base x r n B A (nI i) (nI o) 101 0) (vx_cwSW 6 hts gL_isPaper_L_does rfl rfl rfl (by decide +kernel) ⟨Nat.le_of_ble_eq_true rfl, Nat.le_of_ble_eq_true rfl⟩) (z_preS hA hS hH) rfl rfl hl.1 rfl (lv_room (Nat.le_of_ble_eq_true rfl)) dL_isPaper_143 ⟨(by show _ ≤ (14 : Nat); omega), (by show _ ≤ (120 : Nat); omega)⟩) hS (fun E9 ce9 q9 u9 H locs hw9 hH hz9 hS hce9 hv9 hcl9 => hw9.elim) (fun r_k_80 u_k_80 H locs hw_k_80 hH hz_k_80 hS => ?_)
            rcases hw_k_80 with ⟨hc_k_80, rfl, hu_k_80⟩ | ⟨hc_k_80, rfl, hu_k_80⟩ | ⟨hc_k_80, rfl, hu_k_80⟩ | ⟨hc_k_80, rfl, hu_k_80⟩
            · exact absurd (hc_k_80.symm.trans (cdCourse2 (o := o) (d := 101) hJ.1 hi (by omega) (by omega) (by omega))) (by decide)
            · exact absurd (hc_k_80.symm.trans (cdCourse2 (o := o) (d := 101) hJ.1 hi (by omega) (by omega) (by omega))) (by decide)
            · rw [hu_k_80] at hH
              have hJ_k_80 := lH_J hH
              refine lv_iload hx hb dL_isPaper_146 (lv_at hl 3 rfl) ?_
              refine lv_if_ne (tgt := 156) hx hb dL_isPaper_148 (by decide) (fun _ => ?_) (fun c_81 => absurd c_81 (by decide))
              refine lv_iload hx hb dL_isPaper_156 (lv_at hl 2 rfl) ?_
              refine lv_bipush (v := 100) hx hb dL_isPaper_158 (by decide) ?_
              refine lv_icmp_le (tgt := 168) hx hb dL_isPaper_160 (by decide) (fun c_82 => absurd c_82 (by decide)) (fun _ => ?_)
              refine lv_bipush (v := (-20)) hx hb dL_isPaper_163 (by decide) ?_
              refine lv_goto (tgt := 170) hx hb dL_isPaper_165 (by decide) ?_
              refine lv_icmp_ne (tgt := 177) hx hb dL_isPaper_170 (by decide) (fun c_83 => absurd c_83 (by decide)) (fun _ => ?_)
              refine lv_iconst (v := 1) hx hb dL_isPaper_173 (by decide) ?_
              refine lv_goto (tgt := 178) hx hb dL_isPaper_174 (by decide) ?_
              exact z_zret hx hb hr hlocks hH hS rfl (⟨rfl, hE, hY⟩) (by omega) (by omega) dL_isPaper_178
            · exact absurd (hc_k_80.symm.trans (cdCourse2 (o := o) (d := 101) hJ.1 hi (by omega) (by omega) (by omega))) (by decide)
          · refine lv_iconst (v := 1) hx hb dL_isPaper_97 (by decide) ?_
            refine lv_goto (tgt := 102) hx hb dL_isPaper_98 (by decide) ?_
            refine lv_istore (lv' := [(12, .int 1), (11, .int (nI (10 * i))), (10, .int 101), (9, .int 1), (0, .ref x), (1, .ref (r 0)), (2, .ref (r 2)), (3, .ref (r 3)), (4, .ref (r 4)), (5, .int 0), (6, .int (nI i)), (7, .int (nI o)), (8, .int (nI t))]) hx hb dL_isPaper_102 hl (by decide) rfl (fun ls hl => ?_)
            refine lv_iload hx hb dL_isPaper_104 (lv_at hl 3 rfl) ?_
            refine lv_if_eq (tgt := 121) hx hb dL_isPaper_106 (by decide) (fun c_84 => absurd c_84 (by decide)) (fun _ => ?_)
            refine lv_iload hx hb dL_isPaper_109 (lv_at hl 2 rfl) ?_
            refine lv_bipush (v := 100) hx hb dL_isPaper_111 (by decide) ?_
            refine lv_icmp_gt (tgt := 121) hx hb dL_isPaper_113 (by decide) (fun _ => ?_) (fun c_85 => absurd c_85 (by decide))
            refine lv_aload_n hx hb dL_isPaper_121 rfl (lv_at hl 4 rfl) ?_
            refine lv_iconst (v := 1) hx hb dL_isPaper_122 (by decide) ?_
            refine lv_iload hx hb dL_isPaper_123 (lv_at hl 9 rfl) ?_
            refine lv_iadd hx hb dL_isPaper_125 ?_
            refine lv_eqi (show (1 + 0 : Int32) = 1 from rfl) ?_
            refine lv_iload hx hb dL_isPaper_126 (lv_at hl 10 rfl) ?_
            refine lv_iload hx hb dL_isPaper_128 (lv_at hl 9 rfl) ?_
            refine lv_if_ne (tgt := 138) hx hb dL_isPaper_130 (by decide) (fun c_86 => absurd c_86 (by decide)) (fun _ => ?_)
            refine lv_iload hx hb dL_isPaper_133 (lv_at hl 11 rfl) ?_
            refine lv_goto (tgt := 140) hx hb dL_isPaper_135 (by decide) ?_
            refine lv_iload hx hb dL_isPaper_140 (lv_at hl 2 rfl) ?_
            refine lv_iconst (v := 0) hx hb dL_isPaper_142 (by decide) ?_
            refine z_xcalli (vx_runSX (As := [.ref x, .int 1, .int (nI i), .int (nI o), .int 101, .int 0]) (rest := []) ⟨hx, hb, hml, hown, hts⟩ (zd_course l hl9 D cy base x r n B A (nI i) (nI o) 101 0) (vx_cwSW 6 hts gL_isPaper_L_does rfl rfl rfl (by decide +kernel) ⟨Nat.le_of_ble_eq_true rfl, Nat.le_of_ble_eq_true rfl⟩) (z_preS hA hS hH) rfl rfl hl.1 rfl (lv_room (Nat.le_of_ble_eq_true rfl)) dL_isPaper_143 ⟨(by show _ ≤ (14 : Nat); omega), (by show _ ≤ (120 : Nat); omega)⟩) hS (fun E9 ce9 q9 u9 H locs hw9 hH hz9 hS hce9 hv9 hcl9 => hw9.elim) (fun r_k_87 u_k_87 H locs hw_k_87 hH hz_k_87 hS => ?_)
            rcases hw_k_87 with ⟨hc_k_87, rfl, hu_k_87⟩ | ⟨hc_k_87, rfl, hu_k_87⟩ | ⟨hc_k_87, rfl, hu_k_87⟩ | ⟨hc_k_87, rfl, hu_k_87⟩
            · exact absurd (hc_k_87.symm.trans (cdCourse2 (o := o) (d := 101) hJ.1 hi (by omega) (by omega) (by omega))) (by decide)
            · exact absurd (hc_k_87.symm.trans (cdCourse2 (o := o) (d := 101) hJ.1 hi (by omega) (by omega) (by omega))) (by decide)
            · rw [hu_k_87] at hH
              have hJ_k_87 := lH_J hH
              refine lv_iload hx hb dL_isPaper_146 (lv_at hl 3 rfl) ?_
              refine lv_if_ne (tgt := 156) hx hb dL_isPaper_148 (by decide) (fun _ => ?_) (fun c_88 => absurd c_88 (by decide))
              refine lv_iload hx hb dL_isPaper_156 (lv_at hl 2 rfl) ?_
              refine lv_bipush (v := 100) hx hb dL_isPaper_158 (by decide) ?_
              refine lv_icmp_le (tgt := 168) hx hb dL_isPaper_160 (by decide) (fun c_89 => absurd c_89 (by decide)) (fun _ => ?_)
              refine lv_bipush (v := (-20)) hx hb dL_isPaper_163 (by decide) ?_
              refine lv_goto (tgt := 170) hx hb dL_isPaper_165 (by decide) ?_
              refine lv_icmp_ne (tgt := 177) hx hb dL_isPaper_170 (by decide) (fun c_90 => absurd c_90 (by decide)) (fun _ => ?_)
              refine lv_iconst (v := 1) hx hb dL_isPaper_173 (by decide) ?_
              refine lv_goto (tgt := 178) hx hb dL_isPaper_174 (by decide) ?_
              exact z_zret hx hb hr hlocks hH hS rfl (⟨rfl, hE, hY⟩) (by omega) (by omega) dL_isPaper_178
            · exact absurd (hc_k_87.symm.trans (cdCourse2 (o := o) (d := 101) hJ.1 hi (by omega) (by omega) (by omega))) (by decide)
set_option maxHeartbeats 8000000 in
set_option maxRecDepth 100000 in
theorem zl_isPaper1 (l : Launch) (hl9 : l.stackTraces = false) (D : va_G) (cy : Nat → ClassId) (base x : Nat) (r : Nat → Nat) (n : Nat) (B A : mB) (hn : 5 ≤ n) {N : Nat} (hE : JE B A) (hY : JX N B) (i o t : Nat) (hi9 : i ≤ nP B) (ho : o < 5) (ht : t < 7000) : Met l yL_isPaper wsL_isPaper ({ frames := 9, cells := 14, slots := 120, locals := 163 }) (zPc D cy base (lH D cy base x r n) [.ref x, .ref (r 0), .ref (r 2), .ref (r 3), .ref (r 4), .int 1, .int (nI i), .int (nI o), .int (nI t)] (B, A)) (zQi base (lH D cy base x r n) (fun (r0 : Int32) (u0 : lU) => r0 = 1 ∧ JE u0.1 u0.2 ∧ JX (N) u0.1)) 14 120 (fun q => base ≤ q) := by
  refine Met.ofW (cc := cL_isPaper) (maxL := 14) (ret := (some .boolean)) (by decide) rfl ?_
  intro p e s m args below meth c s₁ B9 hml hv
  obtain ⟨rfl, hA, hH⟩ := hv
  have hx := B9.exec
  have hb := B9.bytes
  have hr := B9.returns
  have hts := atoms_spec (ws := wsL_isPaper) B9.pre
  have hown : s.vm.findClass RL = some m.cls := findClass_of_methodNamed B9.named
  have hlocks := B9.notSynchronized
  have hS : va_S (fun q : Nat => base ≤ q) s.heap s.heap [] := va_S.rf
  have hl := lv_entry ([.ref x, .ref (r 0), .ref (r 2), .ref (r 3), .ref (r 4), .int 1, .int (nI i), .int (nI o), .int (nI t)]) (n := 14) (Nat.le_of_ble_eq_true rfl)
  rw [lg_entry_eq]
  generalize (lg_sl ([.ref x, .ref (r 0), .ref (r 2), .ref (r 3), .ref (r 4), .int 1, .int (nI i), .int (nI o), .int (nI t)]) ++ List.replicate (14 - (lg_sl ([.ref x, .ref (r 0), .ref (r 2), .ref (r 3), .ref (r 4), .int 1, .int (nI i), .int (nI o), .int (nI t)])).length) Slot.unset).toArray = ls at hl ⊢
  have hl : lv_has ls 14 [(0, .ref x), (1, .ref (r 0)), (2, .ref (r 2)), (3, .ref (r 3)), (4, .ref (r 4)), (5, .int 1), (6, .int (nI i)), (7, .int (nI o)), (8, .int (nI t))] := hl
  have hJ := lH_J hH
  have hn6 : nP B ≤ 6 := hE.1.1
  have hn8 : nO B ≤ 8 := hJ.1.2.1.1
  refine lv_iload hx hb dL_isPaper_0 (lv_at hl 6 rfl) ?_
  refine lv_aload hx hb dL_isPaper_2 (lv_at hl 4 rfl) ?_
  refine lv_iconst (v := 1) hx hb dL_isPaper_4 (by decide) ?_
  refine l_iald (f := 4) (v := (nI (nP B))) (by omega) hx hb hA hH 1 rfl (by rw [show lLen 4 = 3 from rfl]; omega) hE.1.2.2.1 dL_isPaper_5 ?_
  refine lv_icmp_ge (tgt := 24) hx hb dL_isPaper_6 (by decide) (fun c_1 => ?_) (fun c_1 => ?_)
  · have c_1 := (nI_leI (a := nP B) (b := i) (by omega) (by omega)).mp c_1
    refine lv_iconst (v := 0) hx hb dL_isPaper_24 (by decide) ?_
    refine lv_istore (lv' := [(9, .int 0), (0, .ref x), (1, .ref (r 0)), (2, .ref (r 2)), (3, .ref (r 3)), (4, .ref (r 4)), (5, .int 1), (6, .int (nI i)), (7, .int (nI o)), (8, .int (nI t))]) hx hb dL_isPaper_25 hl (by decide) rfl (fun ls hl => ?_)
    refine lv_iload hx hb dL_isPaper_27 (lv_at hl 9 rfl) ?_
    refine lv_bipush (v := 30) hx hb dL_isPaper_29 (by decide) ?_
    refine lv_irem hx hb dL_isPaper_31 (by decide) ?_
    refine lv_eqi (pk_rem (a := t) (d := 30) (by omega) (by omega) (by omega)) ?_
    refine lv_if_ne (tgt := 40) hx hb dL_isPaper_32 (by decide) (fun c_2 => ?_) (fun c_2 => ?_)
    · have c_2 : ¬ (t % 30 = 0) := fun z => c_2 ((nI_eq (a := t % 30) (b := 0) (by omega) (by omega)).mpr z)
      refine lv_iload hx hb dL_isPaper_40 (lv_at hl 9 rfl) ?_
      refine lv_bipush (v := 15) hx hb dL_isPaper_42 (by decide) ?_
      refine lv_irem hx hb dL_isPaper_44 (by decide) ?_
      refine lv_eqi (pk_rem (a := t) (d := 15) (by omega) (by omega) (by omega)) ?_
      refine lv_istore (lv' := [(10, .int (nI (t % 15))), (9, .int 0), (0, .ref x), (1, .ref (r 0)), (2, .ref (r 2)), (3, .ref (r 3)), (4, .ref (r 4)), (5, .int 1), (6, .int (nI i)), (7, .int (nI o)), (8, .int (nI t))]) hx hb dL_isPaper_45 hl (by decide) rfl (fun ls hl => ?_)
      refine lv_iload hx hb dL_isPaper_47 (lv_at hl 1 rfl) ?_
      refine lv_if_eq (tgt := 60) hx hb dL_isPaper_49 (by decide) (fun _ => ?_) (fun c_3 => absurd c_3 (by decide))
      refine lv_iconst (v := 0) hx hb dL_isPaper_60 (by decide) ?_
      refine lv_istore (lv' := [(11, .int 0), (10, .int (nI (t % 15))), (9, .int 0), (0, .ref x), (1, .ref (r 0)), (2, .ref (r 2)), (3, .ref (r 3)), (4, .ref (r 4)), (5, .int 1), (6, .int (nI i)), (7, .int (nI o)), (8, .int (nI t))]) hx hb dL_isPaper_61 hl (by decide) rfl (fun ls hl => ?_)
      refine lv_iload hx hb dL_isPaper_63 (lv_at hl 2 rfl) ?_
      refine lv_if_eq (tgt := 101) hx hb dL_isPaper_65 (by decide) (fun _ => ?_) (fun c_4 => absurd c_4 (by decide))
      refine lv_iconst (v := 0) hx hb dL_isPaper_101 (by decide) ?_
      refine lv_istore (lv' := [(12, .int 0), (11, .int 0), (10, .int (nI (t % 15))), (9, .int 0), (0, .ref x), (1, .ref (r 0)), (2, .ref (r 2)), (3, .ref (r 3)), (4, .ref (r 4)), (5, .int 1), (6, .int (nI i)), (7, .int (nI o)), (8, .int (nI t))]) hx hb dL_isPaper_102 hl (by decide) rfl (fun ls hl => ?_)
      refine lv_iload hx hb dL_isPaper_104 (lv_at hl 3 rfl) ?_
      refine lv_if_eq (tgt := 121) hx hb dL_isPaper_106 (by decide) (fun _ => ?_) (fun c_5 => absurd c_5 (by decide))
      refine lv_aload_n hx hb dL_isPaper_121 rfl (lv_at hl 4 rfl) ?_
      refine lv_iconst (v := 1) hx hb dL_isPaper_122 (by decide) ?_
      refine lv_iload hx hb dL_isPaper_123 (lv_at hl 9 rfl) ?_
      refine lv_iadd hx hb dL_isPaper_125 ?_
      refine lv_eqi (show (1 + 1 : Int32) = 2 from rfl) ?_
      refine lv_iload hx hb dL_isPaper_126 (lv_at hl 10 rfl) ?_
      refine lv_iload hx hb dL_isPaper_128 (lv_at hl 9 rfl) ?_
      refine lv_if_ne (tgt := 138) hx hb dL_isPaper_130 (by decide) (fun _ => ?_) (fun c_6 => absurd c_6 (by decide))
      refine lv_iload hx hb dL_isPaper_138 (lv_at hl 2 rfl) ?_
      refine lv_iload hx hb dL_isPaper_140 (lv_at hl 2 rfl) ?_
      refine lv_iconst (v := 0) hx hb dL_isPaper_142 (by decide) ?_
      refine z_xcalli (vx_runSX (As := [.ref x, .int 2, .int (nI i), .int (nI (t % 15)), .int (nI (t % 15)), .int 0]) (rest := []) ⟨hx, hb, hml, hown, hts⟩ (zd_offence l hl9 D cy base x r n B A (nI i) (nI (t % 15)) (nI (t % 15)) 0) (vx_cwSW 6 hts gL_isPaper_L_does rfl rfl rfl (by decide +kernel) ⟨Nat.le_of_ble_eq_true rfl, Nat.le_of_ble_eq_true rfl⟩) (z_preS hA hS hH) rfl rfl hl.1 rfl (lv_room (Nat.le_of_ble_eq_true rfl)) dL_isPaper_143 ⟨(by show _ ≤ (14 : Nat); omega), (by show _ ≤ (120 : Nat); omega)⟩) hS (fun E9 ce9 q9 u9 H locs hw9 hH hz9 hS hce9 hv9 hcl9 => hw9.elim) (fun r_k_7 u_k_7 H locs hw_k_7 hH hz_k_7 hS => ?_)
      rcases hw_k_7 with ⟨hc_k_7, rfl, hu_k_7⟩ | ⟨hc_k_7, rfl, hu_k_7⟩ | ⟨hc_k_7, rfl, hu_k_7⟩ | ⟨hc_k_7, rfl, hu_k_7⟩
      · exact absurd (hc_k_7.symm.trans (cdOff1 hJ.1 (by omega) (by omega))) (by decide)
      · rw [hu_k_7] at hH
        have hJ_k_7 := lH_J hH
        refine lv_iload hx hb dL_isPaper_146 (lv_at hl 3 rfl) ?_
        refine lv_if_ne (tgt := 156) hx hb dL_isPaper_148 (by decide) (fun c_8 => absurd c_8 (by decide)) (fun _ => ?_)
        refine lv_bipush (v := (-30)) hx hb dL_isPaper_151 (by decide) ?_
        refine lv_goto (tgt := 170) hx hb dL_isPaper_153 (by decide) ?_
        refine lv_icmp_ne (tgt := 177) hx hb dL_isPaper_170 (by decide) (fun c_9 => absurd c_9 (by decide)) (fun _ => ?_)
        refine lv_iconst (v := 1) hx hb dL_isPaper_173 (by decide) ?_
        refine lv_goto (tgt := 178) hx hb dL_isPaper_174 (by decide) ?_
        exact z_zret hx hb hr hlocks hH hS rfl (⟨rfl, hE, hY⟩) (by omega) (by omega) dL_isPaper_178
      · exact absurd (hc_k_7.symm.trans (cdOff1 hJ.1 (by omega) (by omega))) (by decide)
      · exact absurd (hc_k_7.symm.trans (cdOff1 hJ.1 (by omega) (by omega))) (by decide)
    · have c_2 := (nI_eq (a := t % 30) (b := 0) (by omega) (by omega)).mp c_2
      refine lv_bipush (v := 101) hx hb dL_isPaper_35 (by decide) ?_
      refine lv_goto (tgt := 45) hx hb dL_isPaper_37 (by decide) ?_
      refine lv_istore (lv' := [(10, .int 101), (9, .int 0), (0, .ref x), (1, .ref (r 0)), (2, .ref (r 2)), (3, .ref (r 3)), (4, .ref (r 4)), (5, .int 1), (6, .int (nI i)), (7, .int (nI o)), (8, .int (nI t))]) hx hb dL_isPaper_45 hl (by decide) rfl (fun ls hl => ?_)
      refine lv_iload hx hb dL_isPaper_47 (lv_at hl 1 rfl) ?_
      refine lv_if_eq (tgt := 60) hx hb dL_isPaper_49 (by decide) (fun _ => ?_) (fun c_10 => absurd c_10 (by decide))
      refine lv_iconst (v := 0) hx hb dL_isPaper_60 (by decide) ?_
      refine lv_istore (lv' := [(11, .int 0), (10, .int 101), (9, .int 0), (0, .ref x), (1, .ref (r 0)), (2, .ref (r 2)), (3, .ref (r 3)), (4, .ref (r 4)), (5, .int 1), (6, .int (nI i)), (7, .int (nI o)), (8, .int (nI t))]) hx hb dL_isPaper_61 hl (by decide) rfl (fun ls hl => ?_)
      refine lv_iload hx hb dL_isPaper_63 (lv_at hl 2 rfl) ?_
      refine lv_if_eq (tgt := 101) hx hb dL_isPaper_65 (by decide) (fun _ => ?_) (fun c_11 => absurd c_11 (by decide))
      refine lv_iconst (v := 0) hx hb dL_isPaper_101 (by decide) ?_
      refine lv_istore (lv' := [(12, .int 0), (11, .int 0), (10, .int 101), (9, .int 0), (0, .ref x), (1, .ref (r 0)), (2, .ref (r 2)), (3, .ref (r 3)), (4, .ref (r 4)), (5, .int 1), (6, .int (nI i)), (7, .int (nI o)), (8, .int (nI t))]) hx hb dL_isPaper_102 hl (by decide) rfl (fun ls hl => ?_)
      refine lv_iload hx hb dL_isPaper_104 (lv_at hl 3 rfl) ?_
      refine lv_if_eq (tgt := 121) hx hb dL_isPaper_106 (by decide) (fun _ => ?_) (fun c_12 => absurd c_12 (by decide))
      refine lv_aload_n hx hb dL_isPaper_121 rfl (lv_at hl 4 rfl) ?_
      refine lv_iconst (v := 1) hx hb dL_isPaper_122 (by decide) ?_
      refine lv_iload hx hb dL_isPaper_123 (lv_at hl 9 rfl) ?_
      refine lv_iadd hx hb dL_isPaper_125 ?_
      refine lv_eqi (show (1 + 1 : Int32) = 2 from rfl) ?_
      refine lv_iload hx hb dL_isPaper_126 (lv_at hl 10 rfl) ?_
      refine lv_iload hx hb dL_isPaper_128 (lv_at hl 9 rfl) ?_
      refine lv_if_ne (tgt := 138) hx hb dL_isPaper_130 (by decide) (fun _ => ?_) (fun c_13 => absurd c_13 (by decide))
      refine lv_iload hx hb dL_isPaper_138 (lv_at hl 2 rfl) ?_
      refine lv_iload hx hb dL_isPaper_140 (lv_at hl 2 rfl) ?_
      refine lv_iconst (v := 0) hx hb dL_isPaper_142 (by decide) ?_
      refine z_xcalli (vx_runSX (As := [.ref x, .int 2, .int (nI i), .int 101, .int 101, .int 0]) (rest := []) ⟨hx, hb, hml, hown, hts⟩ (zd_offence l hl9 D cy base x r n B A (nI i) 101 101 0) (vx_cwSW 6 hts gL_isPaper_L_does rfl rfl rfl (by decide +kernel) ⟨Nat.le_of_ble_eq_true rfl, Nat.le_of_ble_eq_true rfl⟩) (z_preS hA hS hH) rfl rfl hl.1 rfl (lv_room (Nat.le_of_ble_eq_true rfl)) dL_isPaper_143 ⟨(by show _ ≤ (14 : Nat); omega), (by show _ ≤ (120 : Nat); omega)⟩) hS (fun E9 ce9 q9 u9 H locs hw9 hH hz9 hS hce9 hv9 hcl9 => hw9.elim) (fun r_k_14 u_k_14 H locs hw_k_14 hH hz_k_14 hS => ?_)
      rcases hw_k_14 with ⟨hc_k_14, rfl, hu_k_14⟩ | ⟨hc_k_14, rfl, hu_k_14⟩ | ⟨hc_k_14, rfl, hu_k_14⟩ | ⟨hc_k_14, rfl, hu_k_14⟩
      · exact absurd (hc_k_14.symm.trans (cdOff1 hJ.1 (by omega) (by omega))) (by decide)
      · rw [hu_k_14] at hH
        have hJ_k_14 := lH_J hH
        refine lv_iload hx hb dL_isPaper_146 (lv_at hl 3 rfl) ?_
        refine lv_if_ne (tgt := 156) hx hb dL_isPaper_148 (by decide) (fun c_15 => absurd c_15 (by decide)) (fun _ => ?_)
        refine lv_bipush (v := (-30)) hx hb dL_isPaper_151 (by decide) ?_
        refine lv_goto (tgt := 170) hx hb dL_isPaper_153 (by decide) ?_
        refine lv_icmp_ne (tgt := 177) hx hb dL_isPaper_170 (by decide) (fun c_16 => absurd c_16 (by decide)) (fun _ => ?_)
        refine lv_iconst (v := 1) hx hb dL_isPaper_173 (by decide) ?_
        refine lv_goto (tgt := 178) hx hb dL_isPaper_174 (by decide) ?_
        exact z_zret hx hb hr hlocks hH hS rfl (⟨rfl, hE, hY⟩) (by omega) (by omega) dL_isPaper_178
      · exact absurd (hc_k_14.symm.trans (cdOff1 hJ.1 (by omega) (by omega))) (by decide)
      · exact absurd (hc_k_14.symm.trans (cdOff1 hJ.1 (by omega) (by omega))) (by decide)
  · have c_1 : ¬ (nP B ≤ i) := fun z => c_1 ((nI_leI (a := nP B) (b := i) (by omega) (by omega)).mpr z)
    have hi : i < nP B := by omega
    have hix : ix (nI i) = i := ix_nI (by omega)
    have ho10 : oc B i ≤ 10 := (hE.2.2.2.1 i (by omega)).1
    refine lv_iload hx hb dL_isPaper_9 (lv_at hl 5 rfl) ?_
    refine lv_if_gt (tgt := 20) hx hb dL_isPaper_11 (by decide) (fun _ => ?_) (fun c_17 => absurd c_17 (by decide))
    refine lv_iconst (v := 1) hx hb dL_isPaper_20 (by decide) ?_
    refine lv_goto (tgt := 25) hx hb dL_isPaper_21 (by decide) ?_
    refine lv_istore (lv' := [(9, .int 1), (0, .ref x), (1, .ref (r 0)), (2, .ref (r 2)), (3, .ref (r 3)), (4, .ref (r 4)), (5, .int 1), (6, .int (nI i)), (7, .int (nI o)), (8, .int (nI t))]) hx hb dL_isPaper_25 hl (by decide) rfl (fun ls hl => ?_)
    refine lv_iload hx hb dL_isPaper_27 (lv_at hl 9 rfl) ?_
    refine lv_bipush (v := 30) hx hb dL_isPaper_29 (by decide) ?_
    refine lv_irem hx hb dL_isPaper_31 (by decide) ?_
    refine lv_eqi (pk_rem (a := t) (d := 30) (by omega) (by omega) (by omega)) ?_
    refine lv_if_ne (tgt := 40) hx hb dL_isPaper_32 (by decide) (fun c_18 => ?_) (fun c_18 => ?_)
    · have c_18 : ¬ (t % 30 = 0) := fun z => c_18 ((nI_eq (a := t % 30) (b := 0) (by omega) (by omega)).mpr z)
      refine lv_iload hx hb dL_isPaper_40 (lv_at hl 9 rfl) ?_
      refine lv_bipush (v := 15) hx hb dL_isPaper_42 (by decide) ?_
      refine lv_irem hx hb dL_isPaper_44 (by decide) ?_
      refine lv_eqi (pk_rem (a := t) (d := 15) (by omega) (by omega) (by omega)) ?_
      refine lv_istore (lv' := [(10, .int (nI (t % 15))), (9, .int 1), (0, .ref x), (1, .ref (r 0)), (2, .ref (r 2)), (3, .ref (r 3)), (4, .ref (r 4)), (5, .int 1), (6, .int (nI i)), (7, .int (nI o)), (8, .int (nI t))]) hx hb dL_isPaper_45 hl (by decide) rfl (fun ls hl => ?_)
      refine lv_iload hx hb dL_isPaper_47 (lv_at hl 1 rfl) ?_
      refine lv_if_eq (tgt := 60) hx hb dL_isPaper_49 (by decide) (fun c_19 => absurd c_19 (by decide)) (fun _ => ?_)
      refine lv_bipush (v := 10) hx hb dL_isPaper_52 (by decide) ?_
      refine lv_iload hx hb dL_isPaper_54 (lv_at hl 8 rfl) ?_
      refine lv_imul hx hb dL_isPaper_56 ?_
      refine lv_eqi (pk_mul 10 i) ?_
      refine lv_goto (tgt := 61) hx hb dL_isPaper_57 (by decide) ?_
      refine lv_istore (lv' := [(11, .int (nI (10 * i))), (10, .int (nI (t % 15))), (9, .int 1), (0, .ref x), (1, .ref (r 0)), (2, .ref (r 2)), (3, .ref (r 3)), (4, .ref (r 4)), (5, .int 1), (6, .int (nI i)), (7, .int (nI o)), (8, .int (nI t))]) hx hb dL_isPaper_61 hl (by decide) rfl (fun ls hl => ?_)
      refine lv_iload hx hb dL_isPaper_63 (lv_at hl 2 rfl) ?_
      refine lv_if_eq (tgt := 101) hx hb dL_isPaper_65 (by decide) (fun c_20 => absurd c_20 (by decide)) (fun _ => ?_)
      refine lv_aload_n hx hb dL_isPaper_68 rfl (lv_at hl 4 rfl) ?_
      refine lv_iload hx hb dL_isPaper_69 (lv_at hl 0 rfl) ?_
      refine lv_iconst (v := 4) hx hb dL_isPaper_71 (by decide) ?_
      refine lv_iadd hx hb dL_isPaper_72 ?_
      refine lv_eqi (nI_add (10 * i) 4) ?_
      refine l_iald (f := 0) (v := (B 2 i)) (by omega) hx hb hA hH (10 * i + 4) rfl (by rw [show lLen 0 = 60 from rfl]; omega) (hE.2.2.1 i (by omega)).1 dL_isPaper_73 ?_
      refine lv_iconst (v := 1) hx hb dL_isPaper_74 (by decide) ?_
      refine lv_icmp_eq (tgt := 97) hx hb dL_isPaper_75 (by decide) (fun c_21 => ?_) (fun c_21 => ?_)
      · have h2n : ¬ B 2 i = 0 := by rw [c_21]; decide
        refine lv_iconst (v := 1) hx hb dL_isPaper_97 (by decide) ?_
        refine lv_goto (tgt := 102) hx hb dL_isPaper_98 (by decide) ?_
        refine lv_istore (lv' := [(12, .int 1), (11, .int (nI (10 * i))), (10, .int (nI (t % 15))), (9, .int 1), (0, .ref x), (1, .ref (r 0)), (2, .ref (r 2)), (3, .ref (r 3)), (4, .ref (r 4)), (5, .int 1), (6, .int (nI i)), (7, .int (nI o)), (8, .int (nI t))]) hx hb dL_isPaper_102 hl (by decide) rfl (fun ls hl => ?_)
        refine lv_iload hx hb dL_isPaper_104 (lv_at hl 3 rfl) ?_
        refine lv_if_eq (tgt := 121) hx hb dL_isPaper_106 (by decide) (fun c_22 => absurd c_22 (by decide)) (fun _ => ?_)
        refine lv_iload hx hb dL_isPaper_109 (lv_at hl 2 rfl) ?_
        refine lv_bipush (v := 100) hx hb dL_isPaper_111 (by decide) ?_
        refine lv_icmp_gt (tgt := 121) hx hb dL_isPaper_113 (by decide) (fun c_23 => absurd ((nI_ltI (a := 100) (b := t % 15) (by omega) (by omega)).mp c_23) (by omega)) (fun _ => ?_)
        refine lv_iload hx hb dL_isPaper_116 (lv_at hl 0 rfl) ?_
        refine lv_if_eq (tgt := 179) hx hb dL_isPaper_118 (by decide) (fun c_24 => absurd c_24 (by decide)) (fun _ => ?_)
        refine lv_aload_n hx hb dL_isPaper_121 rfl (lv_at hl 4 rfl) ?_
        refine lv_iconst (v := 1) hx hb dL_isPaper_122 (by decide) ?_
        refine lv_iload hx hb dL_isPaper_123 (lv_at hl 9 rfl) ?_
        refine lv_iadd hx hb dL_isPaper_125 ?_
        refine lv_eqi (show (1 + 1 : Int32) = 2 from rfl) ?_
        refine lv_iload hx hb dL_isPaper_126 (lv_at hl 10 rfl) ?_
        refine lv_iload hx hb dL_isPaper_128 (lv_at hl 9 rfl) ?_
        refine lv_if_ne (tgt := 138) hx hb dL_isPaper_130 (by decide) (fun _ => ?_) (fun c_25 => absurd c_25 (by decide))
        refine lv_iload hx hb dL_isPaper_138 (lv_at hl 2 rfl) ?_
        refine lv_iload hx hb dL_isPaper_140 (lv_at hl 2 rfl) ?_
        refine lv_iconst (v := 0) hx hb dL_isPaper_142 (by decide) ?_
        refine z_xcalli (vx_runSX (As := [.ref x, .int 2, .int (nI i), .int (nI (t % 15)), .int (nI (t % 15)), .int 0]) (rest := []) ⟨hx, hb, hml, hown, hts⟩ (zd_offence l hl9 D cy base x r n B A (nI i) (nI (t % 15)) (nI (t % 15)) 0) (vx_cwSW 6 hts gL_isPaper_L_does rfl rfl rfl (by decide +kernel) ⟨Nat.le_of_ble_eq_true rfl, Nat.le_of_ble_eq_true rfl⟩) (z_preS hA hS hH) rfl rfl hl.1 rfl (lv_room (Nat.le_of_ble_eq_true rfl)) dL_isPaper_143 ⟨(by show _ ≤ (14 : Nat); omega), (by show _ ≤ (120 : Nat); omega)⟩) hS (fun E9 ce9 q9 u9 H locs hw9 hH hz9 hS hce9 hv9 hcl9 => hw9.elim) (fun r_k_26 u_k_26 H locs hw_k_26 hH hz_k_26 hS => ?_)
        rcases hw_k_26 with ⟨hc_k_26, rfl, hu_k_26⟩ | ⟨hc_k_26, rfl, hu_k_26⟩ | ⟨hc_k_26, rfl, hu_k_26⟩ | ⟨hc_k_26, rfl, hu_k_26⟩
        · exact absurd (hc_k_26.symm.trans (cdOff3 (d := t % 15) hJ.1 hi hix (by omega) (Or.inl h2n))) (by decide)
        · exact absurd (hc_k_26.symm.trans (cdOff3 (d := t % 15) hJ.1 hi hix (by omega) (Or.inl h2n))) (by decide)
        · exact absurd (hc_k_26.symm.trans (cdOff3 (d := t % 15) hJ.1 hi hix (by omega) (Or.inl h2n))) (by decide)
        · rw [hu_k_26] at hH
          have hJ_k_26 := lH_J hH
          refine lv_iload hx hb dL_isPaper_146 (lv_at hl 3 rfl) ?_
          refine lv_if_ne (tgt := 156) hx hb dL_isPaper_148 (by decide) (fun _ => ?_) (fun c_27 => absurd c_27 (by decide))
          refine lv_iload hx hb dL_isPaper_156 (lv_at hl 2 rfl) ?_
          refine lv_bipush (v := 100) hx hb dL_isPaper_158 (by decide) ?_
          refine lv_icmp_le (tgt := 168) hx hb dL_isPaper_160 (by decide) (fun _ => ?_) (fun c_28 => absurd ((nI_leI (a := t % 15) (b := 100) (by omega) (by omega)).mpr (by omega)) c_28)
          refine lv_bipush (v := (-10)) hx hb dL_isPaper_168 (by decide) ?_
          refine lv_icmp_ne (tgt := 177) hx hb dL_isPaper_170 (by decide) (fun c_29 => absurd c_29 (by decide)) (fun _ => ?_)
          refine lv_iconst (v := 1) hx hb dL_isPaper_173 (by decide) ?_
          refine lv_goto (tgt := 178) hx hb dL_isPaper_174 (by decide) ?_
          exact z_zret hx hb hr hlocks hH hS rfl (⟨rfl, hE, hY⟩) (by omega) (by omega) dL_isPaper_178
      · have h2 : B 2 i = 0 := (hJ.2.1.1 i hi).2.1.resolve_right c_21
        refine lv_aload_n hx hb dL_isPaper_78 rfl (lv_at hl 5 rfl) ?_
        refine lv_iconst (v := 3) hx hb dL_isPaper_79 (by decide) ?_
        refine lv_iload hx hb dL_isPaper_80 (lv_at hl 9 rfl) ?_
        refine lv_iadd hx hb dL_isPaper_82 ?_
        refine lv_eqi (nI_add 3 i) ?_
        refine l_iald (f := 2) (v := (A 2 (3 + i))) (by omega) hx hb hA hH (3 + i) rfl (by rw [show lLen 2 = 9 from rfl]; omega) rfl dL_isPaper_83 ?_
        refine lv_aload_n hx hb dL_isPaper_84 rfl (lv_at hl 4 rfl) ?_
        refine lv_iload hx hb dL_isPaper_85 (lv_at hl 0 rfl) ?_
        refine lv_bipush (v := 9) hx hb dL_isPaper_87 (by decide) ?_
        refine lv_iadd hx hb dL_isPaper_89 ?_
        refine lv_eqi (nI_add (10 * i) 9) ?_
        refine l_iald (f := 0) (v := (nI (oc B i))) (by omega) hx hb hA hH (10 * i + 9) rfl (by rw [show lLen 0 = 60 from rfl]; omega) ((hE.2.2.1 i (by omega)).2.2.2.2.2.1.trans (hE.2.2.2.1 i (by omega)).2.1) dL_isPaper_90 ?_
        refine lv_iadd hx hb dL_isPaper_91 ?_
        refine lv_eqi (show A 2 (3 + i) + nI (oc B i) = B 9 i by rw [← (hE.2.2.2.1 i (by omega)).2.1]; exact (hE.2.2.1 i (by omega)).2.2.2.2.2.2) ?_
        refine lv_bipush (v := 50) hx hb dL_isPaper_92 (by decide) ?_
        refine lv_icmp_ne (tgt := 101) hx hb dL_isPaper_94 (by decide) (fun c_30 => ?_) (fun c_30 => ?_)
        · refine lv_iconst (v := 0) hx hb dL_isPaper_101 (by decide) ?_
          refine lv_istore (lv' := [(12, .int 0), (11, .int (nI (10 * i))), (10, .int (nI (t % 15))), (9, .int 1), (0, .ref x), (1, .ref (r 0)), (2, .ref (r 2)), (3, .ref (r 3)), (4, .ref (r 4)), (5, .int 1), (6, .int (nI i)), (7, .int (nI o)), (8, .int (nI t))]) hx hb dL_isPaper_102 hl (by decide) rfl (fun ls hl => ?_)
          refine lv_iload hx hb dL_isPaper_104 (lv_at hl 3 rfl) ?_
          refine lv_if_eq (tgt := 121) hx hb dL_isPaper_106 (by decide) (fun c_31 => absurd c_31 (by decide)) (fun _ => ?_)
          refine lv_iload hx hb dL_isPaper_109 (lv_at hl 2 rfl) ?_
          refine lv_bipush (v := 100) hx hb dL_isPaper_111 (by decide) ?_
          refine lv_icmp_gt (tgt := 121) hx hb dL_isPaper_113 (by decide) (fun c_32 => absurd ((nI_ltI (a := 100) (b := t % 15) (by omega) (by omega)).mp c_32) (by omega)) (fun _ => ?_)
          refine lv_iload hx hb dL_isPaper_116 (lv_at hl 0 rfl) ?_
          refine lv_if_eq (tgt := 179) hx hb dL_isPaper_118 (by decide) (fun _ => ?_) (fun c_33 => absurd c_33 (by decide))
          refine lv_aload_n hx hb dL_isPaper_179 rfl (lv_at hl 4 rfl) ?_
          refine lv_iload hx hb dL_isPaper_180 (lv_at hl 10 rfl) ?_
          refine z_calli (va_runV (As := [.int (nI i)]) (rest := []) ⟨hx, hb, hml, hown, hts⟩ (cq_regime l hl9 D cy base x r n B A hJ.1 i hi) (cwV 1 hts gL_isPaper_X5_regime rfl rfl rfl (by decide +kernel) ⟨Nat.le_of_ble_eq_true rfl, Nat.le_of_ble_eq_true rfl⟩) (z_preV hA hS hH (l_recv hA hH)) rfl rfl hl.1 rfl (lv_room (Nat.le_of_ble_eq_true rfl)) dL_isPaper_182 ⟨(by show _ ≤ (14 : Nat); omega), (by show _ ≤ (120 : Nat); omega)⟩) hS (fun r_k_34 u_k_34 H locs hw_k_34 hH hz_k_34 hS => ?_)
          obtain ⟨rfl, hu_k_34⟩ := hw_k_34
          rw [hu_k_34] at hH
          refine lv_istore (lv' := [(13, .int (B 6 i)), (12, .int 0), (11, .int (nI (10 * i))), (10, .int (nI (t % 15))), (9, .int 1), (0, .ref x), (1, .ref (r 0)), (2, .ref (r 2)), (3, .ref (r 3)), (4, .ref (r 4)), (5, .int 1), (6, .int (nI i)), (7, .int (nI o)), (8, .int (nI t))]) hx hb dL_isPaper_185 hl (by decide) rfl (fun ls hl => ?_)
          refine lv_iload hx hb dL_isPaper_187 (lv_at hl 10 rfl) ?_
          refine lv_if_ne (tgt := 277) hx hb dL_isPaper_189 (by decide) (fun _ => ?_) (fun c_35 => absurd c_35 (by decide))
          refine lv_aload_n hx hb dL_isPaper_277 rfl (lv_at hl 6 rfl) ?_
          refine lv_iload hx hb dL_isPaper_278 (lv_at hl 2 rfl) ?_
          refine lv_bipush (v := 9) hx hb dL_isPaper_280 (by decide) ?_
          refine lv_iadd hx hb dL_isPaper_282 ?_
          refine lv_eqi (nI_add (10 * i) 9) ?_
          refine l_iald (f := 0) (v := (nI (oc B i))) (by omega) hx hb hA hH (10 * i + 9) rfl (by rw [show lLen 0 = 60 from rfl]; omega) ((hE.2.2.1 i (by omega)).2.2.2.2.2.1.trans (hE.2.2.2.1 i (by omega)).2.1) dL_isPaper_283 ?_
          refine lv_bipush (v := 10) hx hb dL_isPaper_284 (by decide) ?_
          refine lv_icmp_ne (tgt := 296) hx hb dL_isPaper_286 (by decide) (fun c_36 => ?_) (fun c_36 => ?_)
          · have c_36 : ¬ (oc B i = 10) := fun z => c_36 ((nI_eq (a := oc B i) (b := 10) (by omega) (by omega)).mpr z)
            refine lv_aload_n hx hb dL_isPaper_296 rfl (lv_at hl 8 rfl) ?_
            refine lv_bipush (v := 10) hx hb dL_isPaper_297 (by decide) ?_
            refine lv_iload hx hb dL_isPaper_299 (lv_at hl 11 rfl) ?_
            refine lv_imul hx hb dL_isPaper_301 ?_
            refine lv_eqi (pk_mul 10 i) ?_
            refine lv_aload_n hx hb dL_isPaper_302 rfl (lv_at hl 6 rfl) ?_
            refine lv_iload hx hb dL_isPaper_303 (lv_at hl 2 rfl) ?_
            refine lv_bipush (v := 9) hx hb dL_isPaper_305 (by decide) ?_
            refine lv_iadd hx hb dL_isPaper_307 ?_
            refine lv_eqi (nI_add (10 * i) 9) ?_
            refine l_iald (f := 0) (v := (nI (oc B i))) (by omega) hx hb hA hH (10 * i + 9) rfl (by rw [show lLen 0 = 60 from rfl]; omega) ((hE.2.2.1 i (by omega)).2.2.2.2.2.1.trans (hE.2.2.2.1 i (by omega)).2.1) dL_isPaper_308 ?_
            refine lv_iadd hx hb dL_isPaper_309 ?_
            refine lv_eqi (nI_add (10 * i) (oc B i)) ?_
            refine lv_iload hx hb dL_isPaper_310 (lv_at hl 3 rfl) ?_
            refine l_iast (f := 3) (by omega) hx hb hA hH hS (10 * i + oc B i) rfl (by rw [show lLen 3 = 60 from rfl]; omega) dL_isPaper_312 (fun H locs hH hS => ?_)
            refine lv_aload_n hx hb dL_isPaper_313 rfl (lv_at hl 6 rfl) ?_
            refine lv_iload hx hb dL_isPaper_314 (lv_at hl 2 rfl) ?_
            refine lv_bipush (v := 8) hx hb dL_isPaper_316 (by decide) ?_
            refine lv_iadd hx hb dL_isPaper_318 ?_
            refine lv_eqi (nI_add (10 * i) 8) ?_
            refine lv_dup2_11 hx hb dL_isPaper_319 rfl rfl ?_
            refine l_iald (f := 0) (v := (sLoss B i)) (by omega) hx hb hA hH (10 * i + 8) rfl (by rw [show lLen 0 = 60 from rfl]; omega) (hE.2.2.1 i (by omega)).2.2.2.2.1 dL_isPaper_320 ?_
            refine lv_iload hx hb dL_isPaper_321 (lv_at hl 3 rfl) ?_
            refine lv_iadd hx hb dL_isPaper_323 ?_
            refine l_iast (f := 0) (by omega) hx hb hA hH hS (10 * i + 8) rfl (by rw [show lLen 0 = 60 from rfl]; omega) dL_isPaper_324 (fun H locs hH hS => ?_)
            refine lv_aload_n hx hb dL_isPaper_325 rfl (lv_at hl 6 rfl) ?_
            refine lv_iload hx hb dL_isPaper_326 (lv_at hl 2 rfl) ?_
            refine lv_iconst (v := 3) hx hb dL_isPaper_328 (by decide) ?_
            refine lv_iadd hx hb dL_isPaper_329 ?_
            refine lv_eqi (nI_add (10 * i) 3) ?_
            refine lv_iconst (v := (-1)) hx hb dL_isPaper_330 (by decide) ?_
            refine l_iast (f := 0) (by omega) hx hb hA hH hS (10 * i + 3) rfl (by rw [show lLen 0 = 60 from rfl]; omega) dL_isPaper_331 (fun H locs hH hS => ?_)
            refine lv_aload_n hx hb dL_isPaper_332 rfl (lv_at hl 6 rfl) ?_
            refine lv_iload hx hb dL_isPaper_333 (lv_at hl 2 rfl) ?_
            refine lv_bipush (v := 9) hx hb dL_isPaper_335 (by decide) ?_
            refine lv_iadd hx hb dL_isPaper_337 ?_
            refine lv_eqi (nI_add (10 * i) 9) ?_
            refine lv_dup2_11 hx hb dL_isPaper_338 rfl rfl ?_
            refine l_iald (f := 0) (v := (nI (oc B i))) (by omega) hx hb hA hH (10 * i + 9) rfl (by rw [show lLen 0 = 60 from rfl]; omega) ((show (z2 (z2 (z2 A 3 (10 * i + oc B i) (nI (t % 15))) 0 (10 * i + 8) ((sLoss B i) + (nI (t % 15)))) 0 (10 * i + 3) (-1)) 0 (10 * i + 9) = (A 0 (10 * i + 9)) from by simp [z2_ap]).trans ((hE.2.2.1 i (by omega)).2.2.2.2.2.1.trans (hE.2.2.2.1 i (by omega)).2.1)) dL_isPaper_339 ?_
            refine lv_iconst (v := 1) hx hb dL_isPaper_340 (by decide) ?_
            refine lv_iadd hx hb dL_isPaper_341 ?_
            refine lv_eqi (nI_add (oc B i) 1) ?_
            refine l_iast (f := 0) (by omega) hx hb hA hH hS (10 * i + 9) rfl (by rw [show lLen 0 = 60 from rfl]; omega) dL_isPaper_342 (fun H locs hH hS => ?_)
            refine lv_aload_n hx hb dL_isPaper_343 rfl (lv_at hl 5 rfl) ?_
            refine lv_iconst (v := 2) hx hb dL_isPaper_344 (by decide) ?_
            refine lv_iload hx hb dL_isPaper_345 (lv_at hl 11 rfl) ?_
            refine lv_iload hx hb dL_isPaper_347 (lv_at hl 3 rfl) ?_
            refine lv_iconst (v := 0) hx hb dL_isPaper_349 (by decide) ?_
            refine lv_iconst (v := 0) hx hb dL_isPaper_350 (by decide) ?_
            refine z_xcalli (vx_runSX (As := [.ref x, .int 2, .int (nI i), .int (nI (t % 15)), .int 0, .int 0]) (rest := []) ⟨hx, hb, hml, hown, hts⟩ (zd_offence l hl9 D cy base x r n B (z2 (z2 (z2 (z2 A 3 (10 * i + oc B i) (nI (t % 15))) 0 (10 * i + 8) ((sLoss B i) + (nI (t % 15)))) 0 (10 * i + 3) (-1)) 0 (10 * i + 9) (nI (oc B i + 1))) (nI i) (nI (t % 15)) 0 0) (vx_cwSW 6 hts gL_isPaper_L_does rfl rfl rfl (by decide +kernel) ⟨Nat.le_of_ble_eq_true rfl, Nat.le_of_ble_eq_true rfl⟩) (z_preS hA hS hH) rfl rfl hl.1 rfl (lv_room (Nat.le_of_ble_eq_true rfl)) dL_isPaper_351 ⟨(by show _ ≤ (14 : Nat); omega), (by show _ ≤ (120 : Nat); omega)⟩) hS (fun E9 ce9 q9 u9 H locs hw9 hH hz9 hS hce9 hv9 hcl9 => hw9.elim) (fun r_k_37 u_k_37 H locs hw_k_37 hH hz_k_37 hS => ?_)
            rcases hw_k_37 with ⟨hc_k_37, rfl, hu_k_37⟩ | ⟨hc_k_37, rfl, hu_k_37⟩ | ⟨hc_k_37, rfl, hu_k_37⟩ | ⟨hc_k_37, rfl, hu_k_37⟩
            · rw [hu_k_37] at hH
              have hJ_k_37 := lH_J hH
              refine lv_eqi (show an_offence B (nI i) = nI (oc B i) by unfold an_offence; rw [i32_11, hix]; exact (hE.2.2.2.1 i (by omega)).2.1) ?_
              have hE2 := JE_offence (dd := t % 15) hE hi hix (by have := (hE.2.2.2.1 i (by omega)).1; have := c_36; omega) (by omega)
              refine lv_aload_n hx hb dL_isPaper_354 rfl (lv_at hl 6 rfl) ?_
              refine lv_iload hx hb dL_isPaper_355 (lv_at hl 2 rfl) ?_
              refine lv_bipush (v := 9) hx hb dL_isPaper_357 (by decide) ?_
              refine lv_iadd hx hb dL_isPaper_359 ?_
              refine lv_eqi (nI_add (10 * i) 9) ?_
              refine l_iald (f := 0) (v := (nI (oc B i + 1))) (by omega) hx hb hA hH (10 * i + 9) rfl (by rw [show lLen 0 = 60 from rfl]; omega) (by simp [z2_ap]) dL_isPaper_360 ?_
              refine lv_iconst (v := 1) hx hb dL_isPaper_361 (by decide) ?_
              refine lv_isub hx hb dL_isPaper_362 ?_
              refine lv_eqi (nI_pred (oc B i)) ?_
              refine lv_icmp_ne (tgt := 392) hx hb dL_isPaper_363 (by decide) (fun c9 => absurd rfl c9) (fun _ => ?_)
              refine lv_aload_n hx hb dL_isPaper_366 rfl (lv_at hl 5 rfl) ?_
              refine lv_iload hx hb dL_isPaper_367 (lv_at hl 11 rfl) ?_
              refine z_calli (va_runV (As := [.int (nI i)]) (rest := []) ⟨hx, hb, hml, hown, hts⟩ (cq_regime l hl9 D cy base x r n (up_offence B (nI i) (nI (t % 15))) (z2 (z2 (z2 (z2 A 3 (10 * i + oc B i) (nI (t % 15))) 0 (10 * i + 8) ((sLoss B i) + (nI (t % 15)))) 0 (10 * i + 3) (-1)) 0 (10 * i + 9) (nI (oc B i + 1))) hJ_k_37.1 i hi) (cwV 1 hts gL_isPaper_X5_regime rfl rfl rfl (by decide +kernel) ⟨Nat.le_of_ble_eq_true rfl, Nat.le_of_ble_eq_true rfl⟩) (z_preV hA hS hH (l_recv hA hH)) rfl rfl hl.1 rfl (lv_room (Nat.le_of_ble_eq_true rfl)) dL_isPaper_369 ⟨(by show _ ≤ (14 : Nat); omega), (by show _ ≤ (120 : Nat); omega)⟩) hS (fun r_k_38 u_k_38 H locs hw_k_38 hH hz_k_38 hS => ?_)
              obtain ⟨rfl, hu_k_38⟩ := hw_k_38
              rw [hu_k_38] at hH
              refine lv_iload hx hb dL_isPaper_372 (lv_at hl 0 rfl) ?_
              refine lv_if_le (tgt := 384) hx hb dL_isPaper_374 (by decide) (fun c_39 => ?_) (fun c_39 => ?_)
              · refine lv_iconst (v := 0) hx hb dL_isPaper_384 (by decide) ?_
                refine lv_icmp_ne (tgt := 392) hx hb dL_isPaper_385 (by decide) (fun c_40 => absurd (show up_offence B (nI i) (nI (t % 15)) 6 i = 0 by rw [rg_off hix]; exact rgo0 (hJ.2.1.1 i hi).1 c_39) c_40) (fun _ => ?_)
                refine lv_iconst (v := 1) hx hb dL_isPaper_388 (by decide) ?_
                refine lv_goto (tgt := 393) hx hb dL_isPaper_389 (by decide) ?_
                exact z_zret hx hb hr hlocks hH hS rfl (⟨rfl, hE2, JX_off hY⟩) (by omega) (by omega) dL_isPaper_393
              · refine lv_iload hx hb dL_isPaper_377 (lv_at hl 0 rfl) ?_
                refine lv_iconst (v := 1) hx hb dL_isPaper_379 (by decide) ?_
                refine lv_isub hx hb dL_isPaper_380 ?_
                refine lv_goto (tgt := 385) hx hb dL_isPaper_381 (by decide) ?_
                refine lv_icmp_ne (tgt := 392) hx hb dL_isPaper_385 (by decide) (fun c_41 => absurd (show up_offence B (nI i) (nI (t % 15)) 6 i = B 6 i - 1 by rw [rg_off hix]; exact rgo1 c_39) c_41) (fun _ => ?_)
                refine lv_iconst (v := 1) hx hb dL_isPaper_388 (by decide) ?_
                refine lv_goto (tgt := 393) hx hb dL_isPaper_389 (by decide) ?_
                exact z_zret hx hb hr hlocks hH hS rfl (⟨rfl, hE2, JX_off hY⟩) (by omega) (by omega) dL_isPaper_393
            · exact absurd (hc_k_37.symm.trans (cdOff0 (d := t % 15) hJ.1 hi hix (by omega) h2 c_30)) (by decide)
            · exact absurd (hc_k_37.symm.trans (cdOff0 (d := t % 15) hJ.1 hi hix (by omega) h2 c_30)) (by decide)
            · exact absurd (hc_k_37.symm.trans (cdOff0 (d := t % 15) hJ.1 hi hix (by omega) h2 c_30)) (by decide)
          · have c_36 := (nI_eq (a := oc B i) (b := 10) (by omega) (by omega)).mp c_36
            refine lv_aload_n hx hb dL_isPaper_289 rfl (lv_at hl 5 rfl) ?_
            refine lv_iload hx hb dL_isPaper_290 (lv_at hl 11 rfl) ?_
            refine z_calli (va_runV (As := [.int (nI i)]) (rest := []) ⟨hx, hb, hml, hown, hts⟩ (cq_isIn l hl9 D cy base x r n B A hJ.1 i hi) (cwV 1 hts gL_isPaper_X5_isIn rfl rfl rfl (by decide +kernel) ⟨Nat.le_of_ble_eq_true rfl, Nat.le_of_ble_eq_true rfl⟩) (z_preV hA hS hH (l_recv hA hH)) rfl rfl hl.1 rfl (lv_room (Nat.le_of_ble_eq_true rfl)) dL_isPaper_292 ⟨(by show _ ≤ (14 : Nat); omega), (by show _ ≤ (120 : Nat); omega)⟩) hS (fun r_k_42 u_k_42 H locs hw_k_42 hH hz_k_42 hS => ?_)
            obtain ⟨rfl, hu_k_42⟩ := hw_k_42
            rw [hu_k_42] at hH
            refine lv_eqi (show (if B 2 i = 0 then (1 : Int32) else 0) = 1 from if_pos h2) ?_
            exact z_zret hx hb hr hlocks hH hS rfl (⟨rfl, hE, hY⟩) (by omega) (by omega) dL_isPaper_295
        · refine lv_iconst (v := 1) hx hb dL_isPaper_97 (by decide) ?_
          refine lv_goto (tgt := 102) hx hb dL_isPaper_98 (by decide) ?_
          refine lv_istore (lv' := [(12, .int 1), (11, .int (nI (10 * i))), (10, .int (nI (t % 15))), (9, .int 1), (0, .ref x), (1, .ref (r 0)), (2, .ref (r 2)), (3, .ref (r 3)), (4, .ref (r 4)), (5, .int 1), (6, .int (nI i)), (7, .int (nI o)), (8, .int (nI t))]) hx hb dL_isPaper_102 hl (by decide) rfl (fun ls hl => ?_)
          refine lv_iload hx hb dL_isPaper_104 (lv_at hl 3 rfl) ?_
          refine lv_if_eq (tgt := 121) hx hb dL_isPaper_106 (by decide) (fun c_43 => absurd c_43 (by decide)) (fun _ => ?_)
          refine lv_iload hx hb dL_isPaper_109 (lv_at hl 2 rfl) ?_
          refine lv_bipush (v := 100) hx hb dL_isPaper_111 (by decide) ?_
          refine lv_icmp_gt (tgt := 121) hx hb dL_isPaper_113 (by decide) (fun c_44 => absurd ((nI_ltI (a := 100) (b := t % 15) (by omega) (by omega)).mp c_44) (by omega)) (fun _ => ?_)
          refine lv_iload hx hb dL_isPaper_116 (lv_at hl 0 rfl) ?_
          refine lv_if_eq (tgt := 179) hx hb dL_isPaper_118 (by decide) (fun c_45 => absurd c_45 (by decide)) (fun _ => ?_)
          refine lv_aload_n hx hb dL_isPaper_121 rfl (lv_at hl 4 rfl) ?_
          refine lv_iconst (v := 1) hx hb dL_isPaper_122 (by decide) ?_
          refine lv_iload hx hb dL_isPaper_123 (lv_at hl 9 rfl) ?_
          refine lv_iadd hx hb dL_isPaper_125 ?_
          refine lv_eqi (show (1 + 1 : Int32) = 2 from rfl) ?_
          refine lv_iload hx hb dL_isPaper_126 (lv_at hl 10 rfl) ?_
          refine lv_iload hx hb dL_isPaper_128 (lv_at hl 9 rfl) ?_
          refine lv_if_ne (tgt := 138) hx hb dL_isPaper_130 (by decide) (fun _ => ?_) (fun c_46 => absurd c_46 (by decide))
          refine lv_iload hx hb dL_isPaper_138 (lv_at hl 2 rfl) ?_
          refine lv_iload hx hb dL_isPaper_140 (lv_at hl 2 rfl) ?_
          refine lv_iconst (v := 0) hx hb dL_isPaper_142 (by decide) ?_
          refine z_xcalli (vx_runSX (As := [.ref x, .int 2, .int (nI i), .int (nI (t % 15)), .int (nI (t % 15)), .int 0]) (rest := []) ⟨hx, hb, hml, hown, hts⟩ (zd_offence l hl9 D cy base x r n B A (nI i) (nI (t % 15)) (nI (t % 15)) 0) (vx_cwSW 6 hts gL_isPaper_L_does rfl rfl rfl (by decide +kernel) ⟨Nat.le_of_ble_eq_true rfl, Nat.le_of_ble_eq_true rfl⟩) (z_preS hA hS hH) rfl rfl hl.1 rfl (lv_room (Nat.le_of_ble_eq_true rfl)) dL_isPaper_143 ⟨(by show _ ≤ (14 : Nat); omega), (by show _ ≤ (120 : Nat); omega)⟩) hS (fun E9 ce9 q9 u9 H locs hw9 hH hz9 hS hce9 hv9 hcl9 => hw9.elim) (fun r_k_47 u_k_47 H locs hw_k_47 hH hz_k_47 hS => ?_)
          rcases hw_k_47 with ⟨hc_k_47, rfl, hu_k_47⟩ | ⟨hc_k_47, rfl, hu_k_47⟩ | ⟨hc_k_47, rfl, hu_k_47⟩ | ⟨hc_k_47, rfl, hu_k_47⟩
          · exact absurd (hc_k_47.symm.trans (cdOff3 (d := t % 15) hJ.1 hi hix (by omega) (Or.inr c_30))) (by decide)
          · exact absurd (hc_k_47.symm.trans (cdOff3 (d := t % 15) hJ.1 hi hix (by omega) (Or.inr c_30))) (by decide)
          · exact absurd (hc_k_47.symm.trans (cdOff3 (d := t % 15) hJ.1 hi hix (by omega) (Or.inr c_30))) (by decide)
          · rw [hu_k_47] at hH
            have hJ_k_47 := lH_J hH
            refine lv_iload hx hb dL_isPaper_146 (lv_at hl 3 rfl) ?_
            refine lv_if_ne (tgt := 156) hx hb dL_isPaper_148 (by decide) (fun _ => ?_) (fun c_48 => absurd c_48 (by decide))
            refine lv_iload hx hb dL_isPaper_156 (lv_at hl 2 rfl) ?_
            refine lv_bipush (v := 100) hx hb dL_isPaper_158 (by decide) ?_
            refine lv_icmp_le (tgt := 168) hx hb dL_isPaper_160 (by decide) (fun _ => ?_) (fun c_49 => absurd ((nI_leI (a := t % 15) (b := 100) (by omega) (by omega)).mpr (by omega)) c_49)
            refine lv_bipush (v := (-10)) hx hb dL_isPaper_168 (by decide) ?_
            refine lv_icmp_ne (tgt := 177) hx hb dL_isPaper_170 (by decide) (fun c_50 => absurd c_50 (by decide)) (fun _ => ?_)
            refine lv_iconst (v := 1) hx hb dL_isPaper_173 (by decide) ?_
            refine lv_goto (tgt := 178) hx hb dL_isPaper_174 (by decide) ?_
            exact z_zret hx hb hr hlocks hH hS rfl (⟨rfl, hE, hY⟩) (by omega) (by omega) dL_isPaper_178
    · have c_18 := (nI_eq (a := t % 30) (b := 0) (by omega) (by omega)).mp c_18
      refine lv_bipush (v := 101) hx hb dL_isPaper_35 (by decide) ?_
      refine lv_goto (tgt := 45) hx hb dL_isPaper_37 (by decide) ?_
      refine lv_istore (lv' := [(10, .int 101), (9, .int 1), (0, .ref x), (1, .ref (r 0)), (2, .ref (r 2)), (3, .ref (r 3)), (4, .ref (r 4)), (5, .int 1), (6, .int (nI i)), (7, .int (nI o)), (8, .int (nI t))]) hx hb dL_isPaper_45 hl (by decide) rfl (fun ls hl => ?_)
      refine lv_iload hx hb dL_isPaper_47 (lv_at hl 1 rfl) ?_
      refine lv_if_eq (tgt := 60) hx hb dL_isPaper_49 (by decide) (fun c_51 => absurd c_51 (by decide)) (fun _ => ?_)
      refine lv_bipush (v := 10) hx hb dL_isPaper_52 (by decide) ?_
      refine lv_iload hx hb dL_isPaper_54 (lv_at hl 8 rfl) ?_
      refine lv_imul hx hb dL_isPaper_56 ?_
      refine lv_eqi (pk_mul 10 i) ?_
      refine lv_goto (tgt := 61) hx hb dL_isPaper_57 (by decide) ?_
      refine lv_istore (lv' := [(11, .int (nI (10 * i))), (10, .int 101), (9, .int 1), (0, .ref x), (1, .ref (r 0)), (2, .ref (r 2)), (3, .ref (r 3)), (4, .ref (r 4)), (5, .int 1), (6, .int (nI i)), (7, .int (nI o)), (8, .int (nI t))]) hx hb dL_isPaper_61 hl (by decide) rfl (fun ls hl => ?_)
      refine lv_iload hx hb dL_isPaper_63 (lv_at hl 2 rfl) ?_
      refine lv_if_eq (tgt := 101) hx hb dL_isPaper_65 (by decide) (fun c_52 => absurd c_52 (by decide)) (fun _ => ?_)
      refine lv_aload_n hx hb dL_isPaper_68 rfl (lv_at hl 4 rfl) ?_
      refine lv_iload hx hb dL_isPaper_69 (lv_at hl 0 rfl) ?_
      refine lv_iconst (v := 4) hx hb dL_isPaper_71 (by decide) ?_
      refine lv_iadd hx hb dL_isPaper_72 ?_
      refine lv_eqi (nI_add (10 * i) 4) ?_
      refine l_iald (f := 0) (v := (B 2 i)) (by omega) hx hb hA hH (10 * i + 4) rfl (by rw [show lLen 0 = 60 from rfl]; omega) (hE.2.2.1 i (by omega)).1 dL_isPaper_73 ?_
      refine lv_iconst (v := 1) hx hb dL_isPaper_74 (by decide) ?_
      refine lv_icmp_eq (tgt := 97) hx hb dL_isPaper_75 (by decide) (fun c_53 => ?_) (fun c_53 => ?_)
      · have h2n : ¬ B 2 i = 0 := by rw [c_53]; decide
        refine lv_iconst (v := 1) hx hb dL_isPaper_97 (by decide) ?_
        refine lv_goto (tgt := 102) hx hb dL_isPaper_98 (by decide) ?_
        refine lv_istore (lv' := [(12, .int 1), (11, .int (nI (10 * i))), (10, .int 101), (9, .int 1), (0, .ref x), (1, .ref (r 0)), (2, .ref (r 2)), (3, .ref (r 3)), (4, .ref (r 4)), (5, .int 1), (6, .int (nI i)), (7, .int (nI o)), (8, .int (nI t))]) hx hb dL_isPaper_102 hl (by decide) rfl (fun ls hl => ?_)
        refine lv_iload hx hb dL_isPaper_104 (lv_at hl 3 rfl) ?_
        refine lv_if_eq (tgt := 121) hx hb dL_isPaper_106 (by decide) (fun c_54 => absurd c_54 (by decide)) (fun _ => ?_)
        refine lv_iload hx hb dL_isPaper_109 (lv_at hl 2 rfl) ?_
        refine lv_bipush (v := 100) hx hb dL_isPaper_111 (by decide) ?_
        refine lv_icmp_gt (tgt := 121) hx hb dL_isPaper_113 (by decide) (fun _ => ?_) (fun c_55 => absurd c_55 (by decide))
        refine lv_aload_n hx hb dL_isPaper_121 rfl (lv_at hl 4 rfl) ?_
        refine lv_iconst (v := 1) hx hb dL_isPaper_122 (by decide) ?_
        refine lv_iload hx hb dL_isPaper_123 (lv_at hl 9 rfl) ?_
        refine lv_iadd hx hb dL_isPaper_125 ?_
        refine lv_eqi (show (1 + 1 : Int32) = 2 from rfl) ?_
        refine lv_iload hx hb dL_isPaper_126 (lv_at hl 10 rfl) ?_
        refine lv_iload hx hb dL_isPaper_128 (lv_at hl 9 rfl) ?_
        refine lv_if_ne (tgt := 138) hx hb dL_isPaper_130 (by decide) (fun _ => ?_) (fun c_56 => absurd c_56 (by decide))
        refine lv_iload hx hb dL_isPaper_138 (lv_at hl 2 rfl) ?_
        refine lv_iload hx hb dL_isPaper_140 (lv_at hl 2 rfl) ?_
        refine lv_iconst (v := 0) hx hb dL_isPaper_142 (by decide) ?_
        refine z_xcalli (vx_runSX (As := [.ref x, .int 2, .int (nI i), .int 101, .int 101, .int 0]) (rest := []) ⟨hx, hb, hml, hown, hts⟩ (zd_offence l hl9 D cy base x r n B A (nI i) 101 101 0) (vx_cwSW 6 hts gL_isPaper_L_does rfl rfl rfl (by decide +kernel) ⟨Nat.le_of_ble_eq_true rfl, Nat.le_of_ble_eq_true rfl⟩) (z_preS hA hS hH) rfl rfl hl.1 rfl (lv_room (Nat.le_of_ble_eq_true rfl)) dL_isPaper_143 ⟨(by show _ ≤ (14 : Nat); omega), (by show _ ≤ (120 : Nat); omega)⟩) hS (fun E9 ce9 q9 u9 H locs hw9 hH hz9 hS hce9 hv9 hcl9 => hw9.elim) (fun r_k_57 u_k_57 H locs hw_k_57 hH hz_k_57 hS => ?_)
        rcases hw_k_57 with ⟨hc_k_57, rfl, hu_k_57⟩ | ⟨hc_k_57, rfl, hu_k_57⟩ | ⟨hc_k_57, rfl, hu_k_57⟩ | ⟨hc_k_57, rfl, hu_k_57⟩
        · exact absurd (hc_k_57.symm.trans (cdOff2 (d := 101) hJ.1 hi (by omega) (by omega))) (by decide)
        · exact absurd (hc_k_57.symm.trans (cdOff2 (d := 101) hJ.1 hi (by omega) (by omega))) (by decide)
        · rw [hu_k_57] at hH
          have hJ_k_57 := lH_J hH
          refine lv_iload hx hb dL_isPaper_146 (lv_at hl 3 rfl) ?_
          refine lv_if_ne (tgt := 156) hx hb dL_isPaper_148 (by decide) (fun _ => ?_) (fun c_58 => absurd c_58 (by decide))
          refine lv_iload hx hb dL_isPaper_156 (lv_at hl 2 rfl) ?_
          refine lv_bipush (v := 100) hx hb dL_isPaper_158 (by decide) ?_
          refine lv_icmp_le (tgt := 168) hx hb dL_isPaper_160 (by decide) (fun c_59 => absurd c_59 (by decide)) (fun _ => ?_)
          refine lv_bipush (v := (-20)) hx hb dL_isPaper_163 (by decide) ?_
          refine lv_goto (tgt := 170) hx hb dL_isPaper_165 (by decide) ?_
          refine lv_icmp_ne (tgt := 177) hx hb dL_isPaper_170 (by decide) (fun c_60 => absurd c_60 (by decide)) (fun _ => ?_)
          refine lv_iconst (v := 1) hx hb dL_isPaper_173 (by decide) ?_
          refine lv_goto (tgt := 178) hx hb dL_isPaper_174 (by decide) ?_
          exact z_zret hx hb hr hlocks hH hS rfl (⟨rfl, hE, hY⟩) (by omega) (by omega) dL_isPaper_178
        · exact absurd (hc_k_57.symm.trans (cdOff2 (d := 101) hJ.1 hi (by omega) (by omega))) (by decide)
      · have h2 : B 2 i = 0 := (hJ.2.1.1 i hi).2.1.resolve_right c_53
        refine lv_aload_n hx hb dL_isPaper_78 rfl (lv_at hl 5 rfl) ?_
        refine lv_iconst (v := 3) hx hb dL_isPaper_79 (by decide) ?_
        refine lv_iload hx hb dL_isPaper_80 (lv_at hl 9 rfl) ?_
        refine lv_iadd hx hb dL_isPaper_82 ?_
        refine lv_eqi (nI_add 3 i) ?_
        refine l_iald (f := 2) (v := (A 2 (3 + i))) (by omega) hx hb hA hH (3 + i) rfl (by rw [show lLen 2 = 9 from rfl]; omega) rfl dL_isPaper_83 ?_
        refine lv_aload_n hx hb dL_isPaper_84 rfl (lv_at hl 4 rfl) ?_
        refine lv_iload hx hb dL_isPaper_85 (lv_at hl 0 rfl) ?_
        refine lv_bipush (v := 9) hx hb dL_isPaper_87 (by decide) ?_
        refine lv_iadd hx hb dL_isPaper_89 ?_
        refine lv_eqi (nI_add (10 * i) 9) ?_
        refine l_iald (f := 0) (v := (nI (oc B i))) (by omega) hx hb hA hH (10 * i + 9) rfl (by rw [show lLen 0 = 60 from rfl]; omega) ((hE.2.2.1 i (by omega)).2.2.2.2.2.1.trans (hE.2.2.2.1 i (by omega)).2.1) dL_isPaper_90 ?_
        refine lv_iadd hx hb dL_isPaper_91 ?_
        refine lv_eqi (show A 2 (3 + i) + nI (oc B i) = B 9 i by rw [← (hE.2.2.2.1 i (by omega)).2.1]; exact (hE.2.2.1 i (by omega)).2.2.2.2.2.2) ?_
        refine lv_bipush (v := 50) hx hb dL_isPaper_92 (by decide) ?_
        refine lv_icmp_ne (tgt := 101) hx hb dL_isPaper_94 (by decide) (fun c_61 => ?_) (fun c_61 => ?_)
        · refine lv_iconst (v := 0) hx hb dL_isPaper_101 (by decide) ?_
          refine lv_istore (lv' := [(12, .int 0), (11, .int (nI (10 * i))), (10, .int 101), (9, .int 1), (0, .ref x), (1, .ref (r 0)), (2, .ref (r 2)), (3, .ref (r 3)), (4, .ref (r 4)), (5, .int 1), (6, .int (nI i)), (7, .int (nI o)), (8, .int (nI t))]) hx hb dL_isPaper_102 hl (by decide) rfl (fun ls hl => ?_)
          refine lv_iload hx hb dL_isPaper_104 (lv_at hl 3 rfl) ?_
          refine lv_if_eq (tgt := 121) hx hb dL_isPaper_106 (by decide) (fun c_62 => absurd c_62 (by decide)) (fun _ => ?_)
          refine lv_iload hx hb dL_isPaper_109 (lv_at hl 2 rfl) ?_
          refine lv_bipush (v := 100) hx hb dL_isPaper_111 (by decide) ?_
          refine lv_icmp_gt (tgt := 121) hx hb dL_isPaper_113 (by decide) (fun _ => ?_) (fun c_63 => absurd c_63 (by decide))
          refine lv_aload_n hx hb dL_isPaper_121 rfl (lv_at hl 4 rfl) ?_
          refine lv_iconst (v := 1) hx hb dL_isPaper_122 (by decide) ?_
          refine lv_iload hx hb dL_isPaper_123 (lv_at hl 9 rfl) ?_
          refine lv_iadd hx hb dL_isPaper_125 ?_
          refine lv_eqi (show (1 + 1 : Int32) = 2 from rfl) ?_
          refine lv_iload hx hb dL_isPaper_126 (lv_at hl 10 rfl) ?_
          refine lv_iload hx hb dL_isPaper_128 (lv_at hl 9 rfl) ?_
          refine lv_if_ne (tgt := 138) hx hb dL_isPaper_130 (by decide) (fun _ => ?_) (fun c_64 => absurd c_64 (by decide))
          refine lv_iload hx hb dL_isPaper_138 (lv_at hl 2 rfl) ?_
          refine lv_iload hx hb dL_isPaper_140 (lv_at hl 2 rfl) ?_
          refine lv_iconst (v := 0) hx hb dL_isPaper_142 (by decide) ?_
          refine z_xcalli (vx_runSX (As := [.ref x, .int 2, .int (nI i), .int 101, .int 101, .int 0]) (rest := []) ⟨hx, hb, hml, hown, hts⟩ (zd_offence l hl9 D cy base x r n B A (nI i) 101 101 0) (vx_cwSW 6 hts gL_isPaper_L_does rfl rfl rfl (by decide +kernel) ⟨Nat.le_of_ble_eq_true rfl, Nat.le_of_ble_eq_true rfl⟩) (z_preS hA hS hH) rfl rfl hl.1 rfl (lv_room (Nat.le_of_ble_eq_true rfl)) dL_isPaper_143 ⟨(by show _ ≤ (14 : Nat); omega), (by show _ ≤ (120 : Nat); omega)⟩) hS (fun E9 ce9 q9 u9 H locs hw9 hH hz9 hS hce9 hv9 hcl9 => hw9.elim) (fun r_k_65 u_k_65 H locs hw_k_65 hH hz_k_65 hS => ?_)
          rcases hw_k_65 with ⟨hc_k_65, rfl, hu_k_65⟩ | ⟨hc_k_65, rfl, hu_k_65⟩ | ⟨hc_k_65, rfl, hu_k_65⟩ | ⟨hc_k_65, rfl, hu_k_65⟩
          · exact absurd (hc_k_65.symm.trans (cdOff2 (d := 101) hJ.1 hi (by omega) (by omega))) (by decide)
          · exact absurd (hc_k_65.symm.trans (cdOff2 (d := 101) hJ.1 hi (by omega) (by omega))) (by decide)
          · rw [hu_k_65] at hH
            have hJ_k_65 := lH_J hH
            refine lv_iload hx hb dL_isPaper_146 (lv_at hl 3 rfl) ?_
            refine lv_if_ne (tgt := 156) hx hb dL_isPaper_148 (by decide) (fun _ => ?_) (fun c_66 => absurd c_66 (by decide))
            refine lv_iload hx hb dL_isPaper_156 (lv_at hl 2 rfl) ?_
            refine lv_bipush (v := 100) hx hb dL_isPaper_158 (by decide) ?_
            refine lv_icmp_le (tgt := 168) hx hb dL_isPaper_160 (by decide) (fun c_67 => absurd c_67 (by decide)) (fun _ => ?_)
            refine lv_bipush (v := (-20)) hx hb dL_isPaper_163 (by decide) ?_
            refine lv_goto (tgt := 170) hx hb dL_isPaper_165 (by decide) ?_
            refine lv_icmp_ne (tgt := 177) hx hb dL_isPaper_170 (by decide) (fun c_68 => absurd c_68 (by decide)) (fun _ => ?_)
            refine lv_iconst (v := 1) hx hb dL_isPaper_173 (by decide) ?_
            refine lv_goto (tgt := 178) hx hb dL_isPaper_174 (by decide) ?_
            exact z_zret hx hb hr hlocks hH hS rfl (⟨rfl, hE, hY⟩) (by omega) (by omega) dL_isPaper_178
          · exact absurd (hc_k_65.symm.trans (cdOff2 (d := 101) hJ.1 hi (by omega) (by omega))) (by decide)
        · refine lv_iconst (v := 1) hx hb dL_isPaper_97 (by decide) ?_
          refine lv_goto (tgt := 102) hx hb dL_isPaper_98 (by decide) ?_
          refine lv_istore (lv' := [(12, .int 1), (11, .int (nI (10 * i))), (10, .int 101), (9, .int 1), (0, .ref x), (1, .ref (r 0)), (2, .ref (r 2)), (3, .ref (r 3)), (4, .ref (r 4)), (5, .int 1), (6, .int (nI i)), (7, .int (nI o)), (8, .int (nI t))]) hx hb dL_isPaper_102 hl (by decide) rfl (fun ls hl => ?_)
          refine lv_iload hx hb dL_isPaper_104 (lv_at hl 3 rfl) ?_
          refine lv_if_eq (tgt := 121) hx hb dL_isPaper_106 (by decide) (fun c_69 => absurd c_69 (by decide)) (fun _ => ?_)
          refine lv_iload hx hb dL_isPaper_109 (lv_at hl 2 rfl) ?_
          refine lv_bipush (v := 100) hx hb dL_isPaper_111 (by decide) ?_
          refine lv_icmp_gt (tgt := 121) hx hb dL_isPaper_113 (by decide) (fun _ => ?_) (fun c_70 => absurd c_70 (by decide))
          refine lv_aload_n hx hb dL_isPaper_121 rfl (lv_at hl 4 rfl) ?_
          refine lv_iconst (v := 1) hx hb dL_isPaper_122 (by decide) ?_
          refine lv_iload hx hb dL_isPaper_123 (lv_at hl 9 rfl) ?_
          refine lv_iadd hx hb dL_isPaper_125 ?_
          refine lv_eqi (show (1 + 1 : Int32) = 2 from rfl) ?_
          refine lv_iload hx hb dL_isPaper_126 (lv_at hl 10 rfl) ?_
          refine lv_iload hx hb dL_isPaper_128 (lv_at hl 9 rfl) ?_
          refine lv_if_ne (tgt := 138) hx hb dL_isPaper_130 (by decide) (fun _ => ?_) (fun c_71 => absurd c_71 (by decide))
          refine lv_iload hx hb dL_isPaper_138 (lv_at hl 2 rfl) ?_
          refine lv_iload hx hb dL_isPaper_140 (lv_at hl 2 rfl) ?_
          refine lv_iconst (v := 0) hx hb dL_isPaper_142 (by decide) ?_
          refine z_xcalli (vx_runSX (As := [.ref x, .int 2, .int (nI i), .int 101, .int 101, .int 0]) (rest := []) ⟨hx, hb, hml, hown, hts⟩ (zd_offence l hl9 D cy base x r n B A (nI i) 101 101 0) (vx_cwSW 6 hts gL_isPaper_L_does rfl rfl rfl (by decide +kernel) ⟨Nat.le_of_ble_eq_true rfl, Nat.le_of_ble_eq_true rfl⟩) (z_preS hA hS hH) rfl rfl hl.1 rfl (lv_room (Nat.le_of_ble_eq_true rfl)) dL_isPaper_143 ⟨(by show _ ≤ (14 : Nat); omega), (by show _ ≤ (120 : Nat); omega)⟩) hS (fun E9 ce9 q9 u9 H locs hw9 hH hz9 hS hce9 hv9 hcl9 => hw9.elim) (fun r_k_72 u_k_72 H locs hw_k_72 hH hz_k_72 hS => ?_)
          rcases hw_k_72 with ⟨hc_k_72, rfl, hu_k_72⟩ | ⟨hc_k_72, rfl, hu_k_72⟩ | ⟨hc_k_72, rfl, hu_k_72⟩ | ⟨hc_k_72, rfl, hu_k_72⟩
          · exact absurd (hc_k_72.symm.trans (cdOff2 (d := 101) hJ.1 hi (by omega) (by omega))) (by decide)
          · exact absurd (hc_k_72.symm.trans (cdOff2 (d := 101) hJ.1 hi (by omega) (by omega))) (by decide)
          · rw [hu_k_72] at hH
            have hJ_k_72 := lH_J hH
            refine lv_iload hx hb dL_isPaper_146 (lv_at hl 3 rfl) ?_
            refine lv_if_ne (tgt := 156) hx hb dL_isPaper_148 (by decide) (fun _ => ?_) (fun c_73 => absurd c_73 (by decide))
            refine lv_iload hx hb dL_isPaper_156 (lv_at hl 2 rfl) ?_
            refine lv_bipush (v := 100) hx hb dL_isPaper_158 (by decide) ?_
            refine lv_icmp_le (tgt := 168) hx hb dL_isPaper_160 (by decide) (fun c_74 => absurd c_74 (by decide)) (fun _ => ?_)
            refine lv_bipush (v := (-20)) hx hb dL_isPaper_163 (by decide) ?_
            refine lv_goto (tgt := 170) hx hb dL_isPaper_165 (by decide) ?_
            refine lv_icmp_ne (tgt := 177) hx hb dL_isPaper_170 (by decide) (fun c_75 => absurd c_75 (by decide)) (fun _ => ?_)
            refine lv_iconst (v := 1) hx hb dL_isPaper_173 (by decide) ?_
            refine lv_goto (tgt := 178) hx hb dL_isPaper_174 (by decide) ?_
            exact z_zret hx hb hr hlocks hH hS rfl (⟨rfl, hE, hY⟩) (by omega) (by omega) dL_isPaper_178
          · exact absurd (hc_k_72.symm.trans (cdOff2 (d := 101) hJ.1 hi (by omega) (by omega))) (by decide)
theorem nP_app {B : mB} {a b : Int32} : nP (up_appeal B a b) = nP B := by
  unfold up_appeal sRaise
  split <;> rfl
theorem app_2 {B : mB} {a b : Int32} : up_appeal B a b 2 = B 2 := by
  unfold up_appeal sRaise
  split <;> rfl
set_option maxHeartbeats 8000000 in
set_option maxRecDepth 100000 in
theorem zl_isAppealed (l : Launch) (hl9 : l.stackTraces = false) (D : va_G) (cy : Nat → ClassId) (base x : Nat) (r : Nat → Nat) (n : Nat) (B A : mB) (hn : 5 ≤ n) {N : Nat} (hE : JE B A) (hY : JX N B) (i w : Nat) (hi9 : i ≤ nP B) (hw : w < 4) : Met l yL_isAppealed wsL_isAppealed ({ frames := 9, cells := 30, slots := 400, locals := 162 }) (zPc D cy base (lH D cy base x r n) [.ref x, .ref (r 0), .ref (r 3), .ref (r 4), .int (nI i), .int (nI w)] (B, A)) (zQi base (lH D cy base x r n) (fun (r0 : Int32) (u0 : lU) => r0 = 1 ∧ JE u0.1 u0.2 ∧ JX (N) u0.1)) 30 400 (fun q => base ≤ q) := by
  refine Met.ofW (cc := cL_isAppealed) (maxL := 11) (ret := (some .boolean)) (by decide) rfl ?_
  intro p e s m args below meth c s₁ B9 hml hv
  obtain ⟨rfl, hA, hH⟩ := hv
  have hx := B9.exec
  have hb := B9.bytes
  have hr := B9.returns
  have hts := atoms_spec (ws := wsL_isAppealed) B9.pre
  have hown : s.vm.findClass RL = some m.cls := findClass_of_methodNamed B9.named
  have hlocks := B9.notSynchronized
  have hS : va_S (fun q : Nat => base ≤ q) s.heap s.heap [] := va_S.rf
  have hl := lv_entry ([.ref x, .ref (r 0), .ref (r 3), .ref (r 4), .int (nI i), .int (nI w)]) (n := 11) (Nat.le_of_ble_eq_true rfl)
  rw [lg_entry_eq]
  generalize (lg_sl ([.ref x, .ref (r 0), .ref (r 3), .ref (r 4), .int (nI i), .int (nI w)]) ++ List.replicate (11 - (lg_sl ([.ref x, .ref (r 0), .ref (r 3), .ref (r 4), .int (nI i), .int (nI w)])).length) Slot.unset).toArray = ls at hl ⊢
  have hl : lv_has ls 11 [(0, .ref x), (1, .ref (r 0)), (2, .ref (r 3)), (3, .ref (r 4)), (4, .int (nI i)), (5, .int (nI w))] := hl
  have hJ := lH_J hH
  have hn6 : nP B ≤ 6 := hE.1.1
  have hn8 : nO B ≤ 8 := hJ.1.2.1.1
  refine lv_iload hx hb dL_isAppealed_0 (lv_at hl 4 rfl) ?_
  refine lv_aload_n hx hb dL_isAppealed_2 rfl (lv_at hl 3 rfl) ?_
  refine lv_iconst (v := 1) hx hb dL_isAppealed_3 (by decide) ?_
  refine l_iald (f := 4) (v := (nI (nP B))) (by omega) hx hb hA hH 1 rfl (by rw [show lLen 4 = 3 from rfl]; omega) hE.1.2.2.1 dL_isAppealed_4 ?_
  refine lv_icmp_ge (tgt := 39) hx hb dL_isAppealed_5 (by decide) (fun c_1 => ?_) (fun c_1 => ?_)
  · have c_1 := (nI_leI (a := nP B) (b := i) (by omega) (by omega)).mp c_1
    refine lv_iconst (v := 0) hx hb dL_isAppealed_39 (by decide) ?_
    refine lv_istore (lv' := [(6, .int 0), (0, .ref x), (1, .ref (r 0)), (2, .ref (r 3)), (3, .ref (r 4)), (4, .int (nI i)), (5, .int (nI w))]) hx hb dL_isAppealed_40 hl (by decide) rfl (fun ls hl => ?_)
    refine lv_iload hx hb dL_isAppealed_42 (lv_at hl 0 rfl) ?_
    refine lv_if_eq (tgt := 55) hx hb dL_isAppealed_44 (by decide) (fun _ => ?_) (fun c_2 => absurd c_2 (by decide))
    refine lv_iconst (v := 0) hx hb dL_isAppealed_55 (by decide) ?_
    refine lv_istore (lv' := [(7, .int 0), (6, .int 0), (0, .ref x), (1, .ref (r 0)), (2, .ref (r 3)), (3, .ref (r 4)), (4, .int (nI i)), (5, .int (nI w))]) hx hb dL_isAppealed_56 hl (by decide) rfl (fun ls hl => ?_)
    refine lv_iload hx hb dL_isAppealed_58 (lv_at hl 1 rfl) ?_
    refine lv_if_eq (tgt := 92) hx hb dL_isAppealed_60 (by decide) (fun _ => ?_) (fun c_3 => absurd c_3 (by decide))
    refine lv_iconst (v := 0) hx hb dL_isAppealed_92 (by decide) ?_
    refine lv_istore (lv' := [(8, .int 0), (7, .int 0), (6, .int 0), (0, .ref x), (1, .ref (r 0)), (2, .ref (r 3)), (3, .ref (r 4)), (4, .int (nI i)), (5, .int (nI w))]) hx hb dL_isAppealed_93 hl (by decide) rfl (fun ls hl => ?_)
    refine lv_iload hx hb dL_isAppealed_95 (lv_at hl 0 rfl) ?_
    refine lv_if_ne (tgt := 132) hx hb dL_isAppealed_97 (by decide) (fun c_4 => absurd c_4 (by decide)) (fun _ => ?_)
    refine lv_aload_n hx hb dL_isAppealed_100 rfl (lv_at hl 3 rfl) ?_
    refine lv_iconst (v := 3) hx hb dL_isAppealed_101 (by decide) ?_
    refine lv_iload hx hb dL_isAppealed_102 (lv_at hl 7 rfl) ?_
    refine lv_iload hx hb dL_isAppealed_104 (lv_at hl 8 rfl) ?_
    refine lv_iconst (v := 0) hx hb dL_isAppealed_106 (by decide) ?_
    refine lv_iconst (v := 0) hx hb dL_isAppealed_107 (by decide) ?_
    refine z_xcalli (vx_runSX (As := [.ref x, .int 3, .int (nI i), .int (nI w), .int 0, .int 0]) (rest := []) ⟨hx, hb, hml, hown, hts⟩ (zd_appeal l hl9 D cy base x r n B A (nI i) (nI w) 0 0) (vx_cwSW 6 hts gL_isAppealed_L_does rfl rfl rfl (by decide +kernel) ⟨Nat.le_of_ble_eq_true rfl, Nat.le_of_ble_eq_true rfl⟩) (z_preS hA hS hH) rfl rfl hl.1 rfl (lv_room (Nat.le_of_ble_eq_true rfl)) dL_isAppealed_108 ⟨(by show _ ≤ (30 : Nat); omega), (by show _ ≤ (400 : Nat); omega)⟩) hS (fun E9 ce9 q9 u9 H locs hw9 hH hz9 hS hce9 hv9 hcl9 => hw9.elim) (fun r_k_5 u_k_5 H locs hw_k_5 hH hz_k_5 hS => ?_)
    rcases hw_k_5 with ⟨hc_k_5, rfl, hu_k_5⟩ | ⟨hc_k_5, rfl, hu_k_5⟩ | ⟨hc_k_5, rfl, hu_k_5⟩
    · exact absurd (hc_k_5.symm.trans (cdApp1 hJ.1 (by omega) (ix_nI (by omega)) (by omega) (by omega))) (by decide)
    · rw [hu_k_5] at hH
      have hJ_k_5 := lH_J hH
      refine lv_iload hx hb dL_isAppealed_111 (lv_at hl 2 rfl) ?_
      refine lv_if_eq (tgt := 121) hx hb dL_isAppealed_113 (by decide) (fun _ => ?_) (fun c_6 => absurd c_6 (by decide))
      refine lv_bipush (v := (-30)) hx hb dL_isAppealed_121 (by decide) ?_
      refine lv_icmp_ne (tgt := 130) hx hb dL_isAppealed_123 (by decide) (fun c_7 => absurd c_7 (by decide)) (fun _ => ?_)
      refine lv_iconst (v := 1) hx hb dL_isAppealed_126 (by decide) ?_
      refine lv_goto (tgt := 131) hx hb dL_isAppealed_127 (by decide) ?_
      exact z_zret hx hb hr hlocks hH hS rfl (⟨rfl, hE, hY⟩) (by omega) (by omega) dL_isAppealed_131
    · exact absurd (hc_k_5.symm.trans (cdApp1 hJ.1 (by omega) (ix_nI (by omega)) (by omega) (by omega))) (by decide)
  · have c_1 : ¬ (nP B ≤ i) := fun z => c_1 ((nI_leI (a := nP B) (b := i) (by omega) (by omega)).mpr z)
    have hi : i < nP B := by omega
    have hix : ix (nI i) = i := ix_nI (by omega)
    have ho10 : oc B i ≤ 10 := (hE.2.2.2.1 i (by omega)).1
    refine lv_iload hx hb dL_isAppealed_8 (lv_at hl 5 rfl) ?_
    refine lv_aload_n hx hb dL_isAppealed_10 rfl (lv_at hl 1 rfl) ?_
    refine lv_bipush (v := 10) hx hb dL_isAppealed_11 (by decide) ?_
    refine lv_iload hx hb dL_isAppealed_13 (lv_at hl 4 rfl) ?_
    refine lv_aload_n hx hb dL_isAppealed_15 rfl (lv_at hl 3 rfl) ?_
    refine lv_iconst (v := 1) hx hb dL_isAppealed_16 (by decide) ?_
    refine l_iald (f := 4) (v := (nI (nP B))) (by omega) hx hb hA hH 1 rfl (by rw [show lLen 4 = 3 from rfl]; omega) hE.1.2.2.1 dL_isAppealed_17 ?_
    refine lv_icmp_ge (tgt := 26) hx hb dL_isAppealed_18 (by decide) (fun c_8 => absurd ((nI_leI (a := nP B) (b := i) (by omega) (by omega)).mp c_8) (by omega)) (fun _ => ?_)
    refine lv_iload hx hb dL_isAppealed_21 (lv_at hl 4 rfl) ?_
    refine lv_goto (tgt := 27) hx hb dL_isAppealed_23 (by decide) ?_
    refine lv_imul hx hb dL_isAppealed_27 ?_
    refine lv_eqi (pk_mul 10 i) ?_
    refine lv_bipush (v := 9) hx hb dL_isAppealed_28 (by decide) ?_
    refine lv_iadd hx hb dL_isAppealed_30 ?_
    refine lv_eqi (nI_add (10 * i) 9) ?_
    refine l_iald (f := 0) (v := (nI (oc B i))) (by omega) hx hb hA hH (10 * i + 9) rfl (by rw [show lLen 0 = 60 from rfl]; omega) ((hE.2.2.1 i (by omega)).2.2.2.2.2.1.trans (hE.2.2.2.1 i (by omega)).2.1) dL_isAppealed_31 ?_
    refine lv_icmp_ge (tgt := 39) hx hb dL_isAppealed_32 (by decide) (fun c_9 => ?_) (fun c_9 => ?_)
    · have c_9 := (nI_leI (a := oc B i) (b := w) (by omega) (by omega)).mp c_9
      refine lv_iconst (v := 0) hx hb dL_isAppealed_39 (by decide) ?_
      refine lv_istore (lv' := [(6, .int 0), (0, .ref x), (1, .ref (r 0)), (2, .ref (r 3)), (3, .ref (r 4)), (4, .int (nI i)), (5, .int (nI w))]) hx hb dL_isAppealed_40 hl (by decide) rfl (fun ls hl => ?_)
      refine lv_iload hx hb dL_isAppealed_42 (lv_at hl 0 rfl) ?_
      refine lv_if_eq (tgt := 55) hx hb dL_isAppealed_44 (by decide) (fun _ => ?_) (fun c_10 => absurd c_10 (by decide))
      refine lv_iconst (v := 0) hx hb dL_isAppealed_55 (by decide) ?_
      refine lv_istore (lv' := [(7, .int 0), (6, .int 0), (0, .ref x), (1, .ref (r 0)), (2, .ref (r 3)), (3, .ref (r 4)), (4, .int (nI i)), (5, .int (nI w))]) hx hb dL_isAppealed_56 hl (by decide) rfl (fun ls hl => ?_)
      refine lv_iload hx hb dL_isAppealed_58 (lv_at hl 1 rfl) ?_
      refine lv_if_eq (tgt := 92) hx hb dL_isAppealed_60 (by decide) (fun _ => ?_) (fun c_11 => absurd c_11 (by decide))
      refine lv_iconst (v := 0) hx hb dL_isAppealed_92 (by decide) ?_
      refine lv_istore (lv' := [(8, .int 0), (7, .int 0), (6, .int 0), (0, .ref x), (1, .ref (r 0)), (2, .ref (r 3)), (3, .ref (r 4)), (4, .int (nI i)), (5, .int (nI w))]) hx hb dL_isAppealed_93 hl (by decide) rfl (fun ls hl => ?_)
      refine lv_iload hx hb dL_isAppealed_95 (lv_at hl 0 rfl) ?_
      refine lv_if_ne (tgt := 132) hx hb dL_isAppealed_97 (by decide) (fun c_12 => absurd c_12 (by decide)) (fun _ => ?_)
      refine lv_aload_n hx hb dL_isAppealed_100 rfl (lv_at hl 3 rfl) ?_
      refine lv_iconst (v := 3) hx hb dL_isAppealed_101 (by decide) ?_
      refine lv_iload hx hb dL_isAppealed_102 (lv_at hl 7 rfl) ?_
      refine lv_iload hx hb dL_isAppealed_104 (lv_at hl 8 rfl) ?_
      refine lv_iconst (v := 0) hx hb dL_isAppealed_106 (by decide) ?_
      refine lv_iconst (v := 0) hx hb dL_isAppealed_107 (by decide) ?_
      refine z_xcalli (vx_runSX (As := [.ref x, .int 3, .int (nI i), .int (nI w), .int 0, .int 0]) (rest := []) ⟨hx, hb, hml, hown, hts⟩ (zd_appeal l hl9 D cy base x r n B A (nI i) (nI w) 0 0) (vx_cwSW 6 hts gL_isAppealed_L_does rfl rfl rfl (by decide +kernel) ⟨Nat.le_of_ble_eq_true rfl, Nat.le_of_ble_eq_true rfl⟩) (z_preS hA hS hH) rfl rfl hl.1 rfl (lv_room (Nat.le_of_ble_eq_true rfl)) dL_isAppealed_108 ⟨(by show _ ≤ (30 : Nat); omega), (by show _ ≤ (400 : Nat); omega)⟩) hS (fun E9 ce9 q9 u9 H locs hw9 hH hz9 hS hce9 hv9 hcl9 => hw9.elim) (fun r_k_13 u_k_13 H locs hw_k_13 hH hz_k_13 hS => ?_)
      rcases hw_k_13 with ⟨hc_k_13, rfl, hu_k_13⟩ | ⟨hc_k_13, rfl, hu_k_13⟩ | ⟨hc_k_13, rfl, hu_k_13⟩
      · exact absurd (hc_k_13.symm.trans (cdApp1 hJ.1 (by omega) (ix_nI (by omega)) (by omega) (by omega))) (by decide)
      · rw [hu_k_13] at hH
        have hJ_k_13 := lH_J hH
        refine lv_iload hx hb dL_isAppealed_111 (lv_at hl 2 rfl) ?_
        refine lv_if_eq (tgt := 121) hx hb dL_isAppealed_113 (by decide) (fun _ => ?_) (fun c_14 => absurd c_14 (by decide))
        refine lv_bipush (v := (-30)) hx hb dL_isAppealed_121 (by decide) ?_
        refine lv_icmp_ne (tgt := 130) hx hb dL_isAppealed_123 (by decide) (fun c_15 => absurd c_15 (by decide)) (fun _ => ?_)
        refine lv_iconst (v := 1) hx hb dL_isAppealed_126 (by decide) ?_
        refine lv_goto (tgt := 131) hx hb dL_isAppealed_127 (by decide) ?_
        exact z_zret hx hb hr hlocks hH hS rfl (⟨rfl, hE, hY⟩) (by omega) (by omega) dL_isAppealed_131
      · exact absurd (hc_k_13.symm.trans (cdApp1 hJ.1 (by omega) (ix_nI (by omega)) (by omega) (by omega))) (by decide)
    · have c_9 : ¬ (oc B i ≤ w) := fun z => c_9 ((nI_leI (a := oc B i) (b := w) (by omega) (by omega)).mpr z)
      refine lv_iconst (v := 1) hx hb dL_isAppealed_35 (by decide) ?_
      refine lv_goto (tgt := 40) hx hb dL_isAppealed_36 (by decide) ?_
      refine lv_istore (lv' := [(6, .int 1), (0, .ref x), (1, .ref (r 0)), (2, .ref (r 3)), (3, .ref (r 4)), (4, .int (nI i)), (5, .int (nI w))]) hx hb dL_isAppealed_40 hl (by decide) rfl (fun ls hl => ?_)
      refine lv_iload hx hb dL_isAppealed_42 (lv_at hl 0 rfl) ?_
      refine lv_if_eq (tgt := 55) hx hb dL_isAppealed_44 (by decide) (fun c_16 => absurd c_16 (by decide)) (fun _ => ?_)
      refine lv_bipush (v := 10) hx hb dL_isAppealed_47 (by decide) ?_
      refine lv_iload hx hb dL_isAppealed_49 (lv_at hl 5 rfl) ?_
      refine lv_imul hx hb dL_isAppealed_51 ?_
      refine lv_eqi (pk_mul 10 i) ?_
      refine lv_goto (tgt := 56) hx hb dL_isAppealed_52 (by decide) ?_
      refine lv_istore (lv' := [(7, .int (nI (10 * i))), (6, .int 1), (0, .ref x), (1, .ref (r 0)), (2, .ref (r 3)), (3, .ref (r 4)), (4, .int (nI i)), (5, .int (nI w))]) hx hb dL_isAppealed_56 hl (by decide) rfl (fun ls hl => ?_)
      refine lv_iload hx hb dL_isAppealed_58 (lv_at hl 1 rfl) ?_
      refine lv_if_eq (tgt := 92) hx hb dL_isAppealed_60 (by decide) (fun c_17 => absurd c_17 (by decide)) (fun _ => ?_)
      refine lv_aload_n hx hb dL_isAppealed_63 rfl (lv_at hl 3 rfl) ?_
      refine lv_iload hx hb dL_isAppealed_64 (lv_at hl 0 rfl) ?_
      refine lv_iconst (v := 4) hx hb dL_isAppealed_66 (by decide) ?_
      refine lv_iadd hx hb dL_isAppealed_67 ?_
      refine lv_eqi (nI_add (10 * i) 4) ?_
      refine l_iald (f := 0) (v := (B 2 i)) (by omega) hx hb hA hH (10 * i + 4) rfl (by rw [show lLen 0 = 60 from rfl]; omega) (hE.2.2.1 i (by omega)).1 dL_isAppealed_68 ?_
      refine lv_if_ne (tgt := 92) hx hb dL_isAppealed_69 (by decide) (fun c_18 => ?_) (fun c_18 => ?_)
      · have h2n : ¬ B 2 i = 0 := c_18
        refine lv_iconst (v := 0) hx hb dL_isAppealed_92 (by decide) ?_
        refine lv_istore (lv' := [(8, .int 0), (7, .int (nI (10 * i))), (6, .int 1), (0, .ref x), (1, .ref (r 0)), (2, .ref (r 3)), (3, .ref (r 4)), (4, .int (nI i)), (5, .int (nI w))]) hx hb dL_isAppealed_93 hl (by decide) rfl (fun ls hl => ?_)
        refine lv_iload hx hb dL_isAppealed_95 (lv_at hl 0 rfl) ?_
        refine lv_if_ne (tgt := 132) hx hb dL_isAppealed_97 (by decide) (fun c_19 => absurd c_19 (by decide)) (fun _ => ?_)
        refine lv_aload_n hx hb dL_isAppealed_100 rfl (lv_at hl 3 rfl) ?_
        refine lv_iconst (v := 3) hx hb dL_isAppealed_101 (by decide) ?_
        refine lv_iload hx hb dL_isAppealed_102 (lv_at hl 7 rfl) ?_
        refine lv_iload hx hb dL_isAppealed_104 (lv_at hl 8 rfl) ?_
        refine lv_iconst (v := 0) hx hb dL_isAppealed_106 (by decide) ?_
        refine lv_iconst (v := 0) hx hb dL_isAppealed_107 (by decide) ?_
        refine z_xcalli (vx_runSX (As := [.ref x, .int 3, .int (nI i), .int (nI w), .int 0, .int 0]) (rest := []) ⟨hx, hb, hml, hown, hts⟩ (zd_appeal l hl9 D cy base x r n B A (nI i) (nI w) 0 0) (vx_cwSW 6 hts gL_isAppealed_L_does rfl rfl rfl (by decide +kernel) ⟨Nat.le_of_ble_eq_true rfl, Nat.le_of_ble_eq_true rfl⟩) (z_preS hA hS hH) rfl rfl hl.1 rfl (lv_room (Nat.le_of_ble_eq_true rfl)) dL_isAppealed_108 ⟨(by show _ ≤ (30 : Nat); omega), (by show _ ≤ (400 : Nat); omega)⟩) hS (fun E9 ce9 q9 u9 H locs hw9 hH hz9 hS hce9 hv9 hcl9 => hw9.elim) (fun r_k_20 u_k_20 H locs hw_k_20 hH hz_k_20 hS => ?_)
        rcases hw_k_20 with ⟨hc_k_20, rfl, hu_k_20⟩ | ⟨hc_k_20, rfl, hu_k_20⟩ | ⟨hc_k_20, rfl, hu_k_20⟩
        · exact absurd (hc_k_20.symm.trans (cdApp2 hJ.1 hi hix (ix_nI (by omega)) (by omega) (by omega) (Or.inl h2n))) (by decide)
        · exact absurd (hc_k_20.symm.trans (cdApp2 hJ.1 hi hix (ix_nI (by omega)) (by omega) (by omega) (Or.inl h2n))) (by decide)
        · rw [hu_k_20] at hH
          have hJ_k_20 := lH_J hH
          refine lv_iload hx hb dL_isAppealed_111 (lv_at hl 2 rfl) ?_
          refine lv_if_eq (tgt := 121) hx hb dL_isAppealed_113 (by decide) (fun c_21 => absurd c_21 (by decide)) (fun _ => ?_)
          refine lv_bipush (v := (-10)) hx hb dL_isAppealed_116 (by decide) ?_
          refine lv_goto (tgt := 123) hx hb dL_isAppealed_118 (by decide) ?_
          refine lv_icmp_ne (tgt := 130) hx hb dL_isAppealed_123 (by decide) (fun c_22 => absurd c_22 (by decide)) (fun _ => ?_)
          refine lv_iconst (v := 1) hx hb dL_isAppealed_126 (by decide) ?_
          refine lv_goto (tgt := 131) hx hb dL_isAppealed_127 (by decide) ?_
          exact z_zret hx hb hr hlocks hH hS rfl (⟨rfl, hE, hY⟩) (by omega) (by omega) dL_isAppealed_131
      · have h2 : B 2 i = 0 := c_18
        refine lv_aload_n hx hb dL_isAppealed_72 rfl (lv_at hl 4 rfl) ?_
        refine lv_iload hx hb dL_isAppealed_73 (lv_at hl 6 rfl) ?_
        refine lv_bipush (v := 10) hx hb dL_isAppealed_75 (by decide) ?_
        refine lv_imul hx hb dL_isAppealed_77 ?_
        refine lv_eqi ((pk_mul i 10).trans (congrArg nI (Nat.mul_comm i 10))) ?_
        refine lv_iload hx hb dL_isAppealed_78 (lv_at hl 7 rfl) ?_
        refine lv_iadd hx hb dL_isAppealed_80 ?_
        refine lv_eqi (nI_add (10 * i) w) ?_
        refine l_iald (f := 3) (v := (A 3 (10 * i + w))) (by omega) hx hb hA hH (10 * i + w) rfl (by rw [show lLen 3 = 60 from rfl]; omega) rfl dL_isAppealed_81 ?_
        refine lv_sipush (v := 1000) hx hb dL_isAppealed_82 (by decide) ?_
        refine lv_icmp_ge (tgt := 92) hx hb dL_isAppealed_85 (by decide) (fun c_23 => ?_) (fun c_23 => ?_)
        · refine lv_iconst (v := 0) hx hb dL_isAppealed_92 (by decide) ?_
          refine lv_istore (lv' := [(8, .int 0), (7, .int (nI (10 * i))), (6, .int 1), (0, .ref x), (1, .ref (r 0)), (2, .ref (r 3)), (3, .ref (r 4)), (4, .int (nI i)), (5, .int (nI w))]) hx hb dL_isAppealed_93 hl (by decide) rfl (fun ls hl => ?_)
          refine lv_iload hx hb dL_isAppealed_95 (lv_at hl 0 rfl) ?_
          refine lv_if_ne (tgt := 132) hx hb dL_isAppealed_97 (by decide) (fun c_24 => absurd c_24 (by decide)) (fun _ => ?_)
          refine lv_aload_n hx hb dL_isAppealed_100 rfl (lv_at hl 3 rfl) ?_
          refine lv_iconst (v := 3) hx hb dL_isAppealed_101 (by decide) ?_
          refine lv_iload hx hb dL_isAppealed_102 (lv_at hl 7 rfl) ?_
          refine lv_iload hx hb dL_isAppealed_104 (lv_at hl 8 rfl) ?_
          refine lv_iconst (v := 0) hx hb dL_isAppealed_106 (by decide) ?_
          refine lv_iconst (v := 0) hx hb dL_isAppealed_107 (by decide) ?_
          refine z_xcalli (vx_runSX (As := [.ref x, .int 3, .int (nI i), .int (nI w), .int 0, .int 0]) (rest := []) ⟨hx, hb, hml, hown, hts⟩ (zd_appeal l hl9 D cy base x r n B A (nI i) (nI w) 0 0) (vx_cwSW 6 hts gL_isAppealed_L_does rfl rfl rfl (by decide +kernel) ⟨Nat.le_of_ble_eq_true rfl, Nat.le_of_ble_eq_true rfl⟩) (z_preS hA hS hH) rfl rfl hl.1 rfl (lv_room (Nat.le_of_ble_eq_true rfl)) dL_isAppealed_108 ⟨(by show _ ≤ (30 : Nat); omega), (by show _ ≤ (400 : Nat); omega)⟩) hS (fun E9 ce9 q9 u9 H locs hw9 hH hz9 hS hce9 hv9 hcl9 => hw9.elim) (fun r_k_25 u_k_25 H locs hw_k_25 hH hz_k_25 hS => ?_)
          rcases hw_k_25 with ⟨hc_k_25, rfl, hu_k_25⟩ | ⟨hc_k_25, rfl, hu_k_25⟩ | ⟨hc_k_25, rfl, hu_k_25⟩
          · exact absurd (hc_k_25.symm.trans (cdApp2 hJ.1 hi hix (ix_nI (by omega)) (by omega) (by omega) (Or.inr ((q_ge hE hi (by omega)).mp c_23)))) (by decide)
          · exact absurd (hc_k_25.symm.trans (cdApp2 hJ.1 hi hix (ix_nI (by omega)) (by omega) (by omega) (Or.inr ((q_ge hE hi (by omega)).mp c_23)))) (by decide)
          · rw [hu_k_25] at hH
            have hJ_k_25 := lH_J hH
            refine lv_iload hx hb dL_isAppealed_111 (lv_at hl 2 rfl) ?_
            refine lv_if_eq (tgt := 121) hx hb dL_isAppealed_113 (by decide) (fun c_26 => absurd c_26 (by decide)) (fun _ => ?_)
            refine lv_bipush (v := (-10)) hx hb dL_isAppealed_116 (by decide) ?_
            refine lv_goto (tgt := 123) hx hb dL_isAppealed_118 (by decide) ?_
            refine lv_icmp_ne (tgt := 130) hx hb dL_isAppealed_123 (by decide) (fun c_27 => absurd c_27 (by decide)) (fun _ => ?_)
            refine lv_iconst (v := 1) hx hb dL_isAppealed_126 (by decide) ?_
            refine lv_goto (tgt := 131) hx hb dL_isAppealed_127 (by decide) ?_
            exact z_zret hx hb hr hlocks hH hS rfl (⟨rfl, hE, hY⟩) (by omega) (by omega) dL_isAppealed_131
        · refine lv_iconst (v := 1) hx hb dL_isAppealed_88 (by decide) ?_
          refine lv_goto (tgt := 93) hx hb dL_isAppealed_89 (by decide) ?_
          refine lv_istore (lv' := [(8, .int 1), (7, .int (nI (10 * i))), (6, .int 1), (0, .ref x), (1, .ref (r 0)), (2, .ref (r 3)), (3, .ref (r 4)), (4, .int (nI i)), (5, .int (nI w))]) hx hb dL_isAppealed_93 hl (by decide) rfl (fun ls hl => ?_)
          refine lv_iload hx hb dL_isAppealed_95 (lv_at hl 0 rfl) ?_
          refine lv_if_ne (tgt := 132) hx hb dL_isAppealed_97 (by decide) (fun _ => ?_) (fun c_28 => absurd c_28 (by decide))
          refine lv_aload_n hx hb dL_isAppealed_132 rfl (lv_at hl 3 rfl) ?_
          refine lv_iload hx hb dL_isAppealed_133 (lv_at hl 7 rfl) ?_
          refine z_calli (va_runV (As := [.int (nI i)]) (rest := []) ⟨hx, hb, hml, hown, hts⟩ (cq_regime l hl9 D cy base x r n B A hJ.1 i hi) (cwV 1 hts gL_isAppealed_X5_regime rfl rfl rfl (by decide +kernel) ⟨Nat.le_of_ble_eq_true rfl, Nat.le_of_ble_eq_true rfl⟩) (z_preV hA hS hH (l_recv hA hH)) rfl rfl hl.1 rfl (lv_room (Nat.le_of_ble_eq_true rfl)) dL_isAppealed_135 ⟨(by show _ ≤ (30 : Nat); omega), (by show _ ≤ (400 : Nat); omega)⟩) hS (fun r_k_29 u_k_29 H locs hw_k_29 hH hz_k_29 hS => ?_)
          obtain ⟨rfl, hu_k_29⟩ := hw_k_29
          rw [hu_k_29] at hH
          refine lv_istore (lv' := [(9, .int (B 6 i)), (8, .int 1), (7, .int (nI (10 * i))), (6, .int 1), (0, .ref x), (1, .ref (r 0)), (2, .ref (r 3)), (3, .ref (r 4)), (4, .int (nI i)), (5, .int (nI w))]) hx hb dL_isAppealed_138 hl (by decide) rfl (fun ls hl => ?_)
          refine lv_aload_n hx hb dL_isAppealed_140 rfl (lv_at hl 4 rfl) ?_
          refine lv_iload hx hb dL_isAppealed_141 (lv_at hl 8 rfl) ?_
          refine z_calli (va_runV (As := [.int (nI i)]) (rest := []) ⟨hx, hb, hml, hown, hts⟩ (cq_limit l hl9 D cy base x r n B A hJ.1 i hi) (cwV 1 hts gL_isAppealed_X5_limit rfl rfl rfl (by decide +kernel) ⟨Nat.le_of_ble_eq_true rfl, Nat.le_of_ble_eq_true rfl⟩) (z_preV hA hS hH (l_recv hA hH)) rfl rfl hl.1 rfl (lv_room (Nat.le_of_ble_eq_true rfl)) dL_isAppealed_143 ⟨(by show _ ≤ (30 : Nat); omega), (by show _ ≤ (400 : Nat); omega)⟩) hS (fun r_k_30 u_k_30 H locs hw_k_30 hH hz_k_30 hS => ?_)
          obtain ⟨rfl, hu_k_30⟩ := hw_k_30
          rw [hu_k_30] at hH
          refine lv_istore (lv' := [(10, .int (sRest B i)), (9, .int (B 6 i)), (8, .int 1), (7, .int (nI (10 * i))), (6, .int 1), (0, .ref x), (1, .ref (r 0)), (2, .ref (r 3)), (3, .ref (r 4)), (4, .int (nI i)), (5, .int (nI w))]) hx hb dL_isAppealed_146 hl (by decide) rfl (fun ls hl => ?_)
          refine lv_aload_n hx hb dL_isAppealed_148 rfl (lv_at hl 6 rfl) ?_
          refine lv_iload hx hb dL_isAppealed_149 (lv_at hl 3 rfl) ?_
          refine lv_bipush (v := 8) hx hb dL_isAppealed_151 (by decide) ?_
          refine lv_iadd hx hb dL_isAppealed_153 ?_
          refine lv_eqi (nI_add (10 * i) 8) ?_
          refine lv_dup2_11 hx hb dL_isAppealed_154 rfl rfl ?_
          refine l_iald (f := 0) (v := (sLoss B i)) (by omega) hx hb hA hH (10 * i + 8) rfl (by rw [show lLen 0 = 60 from rfl]; omega) (hE.2.2.1 i (by omega)).2.2.2.2.1 dL_isAppealed_155 ?_
          refine lv_aload_n hx hb dL_isAppealed_156 rfl (lv_at hl 7 rfl) ?_
          refine lv_iload hx hb dL_isAppealed_157 (lv_at hl 9 rfl) ?_
          refine lv_bipush (v := 10) hx hb dL_isAppealed_159 (by decide) ?_
          refine lv_imul hx hb dL_isAppealed_161 ?_
          refine lv_eqi ((pk_mul i 10).trans (congrArg nI (Nat.mul_comm i 10))) ?_
          refine lv_iload hx hb dL_isAppealed_162 (lv_at hl 10 rfl) ?_
          refine lv_iadd hx hb dL_isAppealed_164 ?_
          refine lv_eqi (nI_add (10 * i) w) ?_
          refine l_iald (f := 3) (v := (A 3 (10 * i + w))) (by omega) hx hb hA hH (10 * i + w) rfl (by rw [show lLen 3 = 60 from rfl]; omega) rfl dL_isAppealed_165 ?_
          refine lv_isub hx hb dL_isAppealed_166 ?_
          refine l_iast (f := 0) (by omega) hx hb hA hH hS (10 * i + 8) rfl (by rw [show lLen 0 = 60 from rfl]; omega) dL_isAppealed_167 (fun H locs hH hS => ?_)
          refine lv_aload_n hx hb dL_isAppealed_168 rfl (lv_at hl 7 rfl) ?_
          refine lv_iload hx hb dL_isAppealed_169 (lv_at hl 9 rfl) ?_
          refine lv_bipush (v := 10) hx hb dL_isAppealed_171 (by decide) ?_
          refine lv_imul hx hb dL_isAppealed_173 ?_
          refine lv_eqi ((pk_mul i 10).trans (congrArg nI (Nat.mul_comm i 10))) ?_
          refine lv_iload hx hb dL_isAppealed_174 (lv_at hl 10 rfl) ?_
          refine lv_iadd hx hb dL_isAppealed_176 ?_
          refine lv_eqi (nI_add (10 * i) w) ?_
          refine lv_dup2_11 hx hb dL_isAppealed_177 rfl rfl ?_
          refine l_iald (f := 3) (v := (A 3 (10 * i + w))) (by omega) hx hb hA hH (10 * i + w) rfl (by rw [show lLen 3 = 60 from rfl]; omega) rfl dL_isAppealed_178 ?_
          refine lv_sipush (v := 1000) hx hb dL_isAppealed_179 (by decide) ?_
          refine lv_iadd hx hb dL_isAppealed_182 ?_
          refine l_iast (f := 3) (by omega) hx hb hA hH hS (10 * i + w) rfl (by rw [show lLen 3 = 60 from rfl]; omega) dL_isAppealed_183 (fun H locs hH hS => ?_)
          refine lv_aload_n hx hb dL_isAppealed_184 rfl (lv_at hl 5 rfl) ?_
          refine lv_iconst (v := 3) hx hb dL_isAppealed_185 (by decide) ?_
          refine lv_iload hx hb dL_isAppealed_186 (lv_at hl 9 rfl) ?_
          refine lv_iload hx hb dL_isAppealed_188 (lv_at hl 10 rfl) ?_
          refine lv_iconst (v := 0) hx hb dL_isAppealed_190 (by decide) ?_
          refine lv_iconst (v := 0) hx hb dL_isAppealed_191 (by decide) ?_
          have hz : B 20 (50 * i + w) = 0 := Classical.not_not.mp (fun z => c_23 ((q_ge hE hi (by omega)).mpr z))
          refine z_xcalli (vx_runSX (As := [.ref x, .int 3, .int (nI i), .int (nI w), .int 0, .int 0]) (rest := []) ⟨hx, hb, hml, hown, hts⟩ (zd_appeal l hl9 D cy base x r n B (z2 (z2 A 0 (10 * i + 8) ((sLoss B i) - (A 3 (10 * i + w)))) 3 (10 * i + w) ((A 3 (10 * i + w)) + 1000)) (nI i) (nI w) 0 0) (vx_cwSW 6 hts gL_isAppealed_L_does rfl rfl rfl (by decide +kernel) ⟨Nat.le_of_ble_eq_true rfl, Nat.le_of_ble_eq_true rfl⟩) (z_preS hA hS hH) rfl rfl hl.1 rfl (lv_room (Nat.le_of_ble_eq_true rfl)) dL_isAppealed_192 ⟨(by show _ ≤ (30 : Nat); omega), (by show _ ≤ (400 : Nat); omega)⟩) hS (fun E9 ce9 q9 u9 H locs hw9 hH hz9 hS hce9 hv9 hcl9 => hw9.elim) (fun r_k_31 u_k_31 H locs hw_k_31 hH hz_k_31 hS => ?_)
          rcases hw_k_31 with ⟨hc_k_31, rfl, hu_k_31⟩ | ⟨hc_k_31, rfl, hu_k_31⟩ | ⟨hc_k_31, rfl, hu_k_31⟩
          · rw [hu_k_31] at hH
            have hJ_k_31 := lH_J hH
            refine lv_eqi (show an_appeal B (nI i) (nI w) = sRel (up_appeal B (nI i) (nI w)) i from congrArg (sRel _) hix) ?_
            have hE2 := JE_appeal hE hi (by omega) hz hix (ix_nI (n := w) (by omega))
            have hi2 : i < nP (up_appeal B (nI i) (nI w)) := by rw [nP_app]; exact hi
            refine lv_aload_n hx hb dL_isAppealed_195 rfl (lv_at hl 6 rfl) ?_
            refine lv_iload hx hb dL_isAppealed_196 (lv_at hl 9 rfl) ?_
            refine z_calli (va_runS (As := [.ref (r 0), .int (nI i)]) (rest := [.int (sRel (up_appeal B (nI i) (nI w)) i)]) ⟨hx, hb, hml, hown, hts⟩ (zl_due l hl9 D cy base x r n (up_appeal B (nI i) (nI w)) (z2 (z2 A 0 (10 * i + 8) ((sLoss B i) - (A 3 (10 * i + w)))) 3 (10 * i + w) ((A 3 (10 * i + w)) + 1000)) (by omega) i (by omega)) (va_cwS 2 hts gL_isAppealed_L_due rfl rfl rfl (by decide +kernel) ⟨Nat.le_of_ble_eq_true rfl, Nat.le_of_ble_eq_true rfl⟩) (z_preS hA hS hH) rfl rfl hl.1 rfl (lv_room (Nat.le_of_ble_eq_true rfl)) dL_isAppealed_198 ⟨(by show _ ≤ (30 : Nat); omega), (by show _ ≤ (400 : Nat); omega)⟩) hS (fun r_k_32 u_k_32 H locs hw_k_32 hH hz_k_32 hS => ?_)
            obtain ⟨rfl, hu_k_32⟩ := hw_k_32
            rw [hu_k_32] at hH
            refine lv_eqi (show dF ((z2 (z2 A 0 (10 * i + 8) ((sLoss B i) - (A 3 (10 * i + w)))) 3 (10 * i + w) ((A 3 (10 * i + w)) + 1000)) 0) i = (sRel (up_appeal B (nI i) (nI w)) i) from dF_rel hE2 hi2 (Or.inl (by rw [app_2]; exact h2))) ?_
            refine lv_icmp_ne (tgt := 243) hx hb dL_isAppealed_201 (by decide) (fun c9 => absurd rfl c9) (fun _ => ?_)
            refine lv_aload_n hx hb dL_isAppealed_204 rfl (lv_at hl 5 rfl) ?_
            refine lv_iload hx hb dL_isAppealed_205 (lv_at hl 9 rfl) ?_
            refine z_calli (va_runV (As := [.int (nI i)]) (rest := []) ⟨hx, hb, hml, hown, hts⟩ (cq_regime l hl9 D cy base x r n (up_appeal B (nI i) (nI w)) (z2 (z2 A 0 (10 * i + 8) ((sLoss B i) - (A 3 (10 * i + w)))) 3 (10 * i + w) ((A 3 (10 * i + w)) + 1000)) hJ_k_31.1 i hi2) (cwV 1 hts gL_isAppealed_X5_regime rfl rfl rfl (by decide +kernel) ⟨Nat.le_of_ble_eq_true rfl, Nat.le_of_ble_eq_true rfl⟩) (z_preV hA hS hH (l_recv hA hH)) rfl rfl hl.1 rfl (lv_room (Nat.le_of_ble_eq_true rfl)) dL_isAppealed_207 ⟨(by show _ ≤ (30 : Nat); omega), (by show _ ≤ (400 : Nat); omega)⟩) hS (fun r_k_33 u_k_33 H locs hw_k_33 hH hz_k_33 hS => ?_)
            obtain ⟨rfl, hu_k_33⟩ := hw_k_33
            rw [hu_k_33] at hH
            refine lv_iload hx hb dL_isAppealed_210 (lv_at hl 1 rfl) ?_
            refine lv_icmp_lt (tgt := 243) hx hb dL_isAppealed_212 (by decide) (fun c_34 => absurd c_34 ((rg_app3 hJ hi hix).1)) (fun _ => ?_)
            refine lv_aload_n hx hb dL_isAppealed_215 rfl (lv_at hl 5 rfl) ?_
            refine lv_iload hx hb dL_isAppealed_216 (lv_at hl 9 rfl) ?_
            refine z_calli (va_runV (As := [.int (nI i)]) (rest := []) ⟨hx, hb, hml, hown, hts⟩ (cq_regime l hl9 D cy base x r n (up_appeal B (nI i) (nI w)) (z2 (z2 A 0 (10 * i + 8) ((sLoss B i) - (A 3 (10 * i + w)))) 3 (10 * i + w) ((A 3 (10 * i + w)) + 1000)) hJ_k_31.1 i hi2) (cwV 1 hts gL_isAppealed_X5_regime rfl rfl rfl (by decide +kernel) ⟨Nat.le_of_ble_eq_true rfl, Nat.le_of_ble_eq_true rfl⟩) (z_preV hA hS hH (l_recv hA hH)) rfl rfl hl.1 rfl (lv_room (Nat.le_of_ble_eq_true rfl)) dL_isAppealed_218 ⟨(by show _ ≤ (30 : Nat); omega), (by show _ ≤ (400 : Nat); omega)⟩) hS (fun r_k_35 u_k_35 H locs hw_k_35 hH hz_k_35 hS => ?_)
            obtain ⟨rfl, hu_k_35⟩ := hw_k_35
            rw [hu_k_35] at hH
            refine lv_iload hx hb dL_isAppealed_221 (lv_at hl 1 rfl) ?_
            refine lv_iconst (v := 1) hx hb dL_isAppealed_223 (by decide) ?_
            refine lv_iadd hx hb dL_isAppealed_224 ?_
            refine lv_icmp_gt (tgt := 243) hx hb dL_isAppealed_225 (by decide) (fun c_36 => absurd c_36 ((rg_app3 hJ hi hix).2.1)) (fun _ => ?_)
            refine lv_aload_n hx hb dL_isAppealed_228 rfl (lv_at hl 5 rfl) ?_
            refine lv_iload hx hb dL_isAppealed_229 (lv_at hl 9 rfl) ?_
            refine z_calli (va_runV (As := [.int (nI i)]) (rest := []) ⟨hx, hb, hml, hown, hts⟩ (cq_limit l hl9 D cy base x r n (up_appeal B (nI i) (nI w)) (z2 (z2 A 0 (10 * i + 8) ((sLoss B i) - (A 3 (10 * i + w)))) 3 (10 * i + w) ((A 3 (10 * i + w)) + 1000)) hJ_k_31.1 i hi2) (cwV 1 hts gL_isAppealed_X5_limit rfl rfl rfl (by decide +kernel) ⟨Nat.le_of_ble_eq_true rfl, Nat.le_of_ble_eq_true rfl⟩) (z_preV hA hS hH (l_recv hA hH)) rfl rfl hl.1 rfl (lv_room (Nat.le_of_ble_eq_true rfl)) dL_isAppealed_231 ⟨(by show _ ≤ (30 : Nat); omega), (by show _ ≤ (400 : Nat); omega)⟩) hS (fun r_k_37 u_k_37 H locs hw_k_37 hH hz_k_37 hS => ?_)
            obtain ⟨rfl, hu_k_37⟩ := hw_k_37
            rw [hu_k_37] at hH
            refine lv_iload hx hb dL_isAppealed_234 (lv_at hl 0 rfl) ?_
            refine lv_icmp_lt (tgt := 243) hx hb dL_isAppealed_236 (by decide) (fun c_38 => absurd c_38 (rest_app hJ hi hix hJ_k_31)) (fun _ => ?_)
            refine lv_iconst (v := 1) hx hb dL_isAppealed_239 (by decide) ?_
            refine lv_goto (tgt := 244) hx hb dL_isAppealed_240 (by decide) ?_
            exact z_zret hx hb hr hlocks hH hS rfl (⟨rfl, hE2, JX_app hY⟩) (by omega) (by omega) dL_isAppealed_244
          · exact absurd (hc_k_31.symm.trans (cdApp0 hJ.1 hi hix (ix_nI (by omega)) (by omega) (by omega) h2 hz)) (by decide)
          · exact absurd (hc_k_31.symm.trans (cdApp0 hJ.1 hi hix (ix_nI (by omega)) (by omega) (by omega) h2 hz)) (by decide)
set_option maxHeartbeats 8000000 in
set_option maxRecDepth 100000 in
theorem zl_isAssigned (l : Launch) (hl9 : l.stackTraces = false) (D : va_G) (cy : Nat → ClassId) (base x : Nat) (r : Nat → Nat) (n : Nat) (B A : mB) (hn : 5 ≤ n) {N : Nat} (hE : JE B A) (hY : JX N B) (i j : Nat) (hi9 : i ≤ nP B) (hj9 : j ≤ nO B) : Met l yL_isAssigned wsL_isAssigned ({ frames := 9, cells := 10, slots := 100, locals := 162 }) (zPc D cy base (lH D cy base x r n) [.ref x, .ref (r 0), .ref (r 1), .ref (r 2), .ref (r 4), .int (nI i), .int (nI j)] (B, A)) (zQi base (lH D cy base x r n) (fun (r0 : Int32) (u0 : lU) => r0 = 1 ∧ JE u0.1 u0.2 ∧ JX (N) u0.1)) 10 100 (fun q => base ≤ q) := by
  refine Met.ofW (cc := cL_isAssigned) (maxL := 12) (ret := (some .boolean)) (by decide) rfl ?_
  intro p e s m args below meth c s₁ B9 hml hv
  obtain ⟨rfl, hA, hH⟩ := hv
  have hx := B9.exec
  have hb := B9.bytes
  have hr := B9.returns
  have hts := atoms_spec (ws := wsL_isAssigned) B9.pre
  have hown : s.vm.findClass RL = some m.cls := findClass_of_methodNamed B9.named
  have hlocks := B9.notSynchronized
  have hS : va_S (fun q : Nat => base ≤ q) s.heap s.heap [] := va_S.rf
  have hl := lv_entry ([.ref x, .ref (r 0), .ref (r 1), .ref (r 2), .ref (r 4), .int (nI i), .int (nI j)]) (n := 12) (Nat.le_of_ble_eq_true rfl)
  rw [lg_entry_eq]
  generalize (lg_sl ([.ref x, .ref (r 0), .ref (r 1), .ref (r 2), .ref (r 4), .int (nI i), .int (nI j)]) ++ List.replicate (12 - (lg_sl ([.ref x, .ref (r 0), .ref (r 1), .ref (r 2), .ref (r 4), .int (nI i), .int (nI j)])).length) Slot.unset).toArray = ls at hl ⊢
  have hl : lv_has ls 12 [(0, .ref x), (1, .ref (r 0)), (2, .ref (r 1)), (3, .ref (r 2)), (4, .ref (r 4)), (5, .int (nI i)), (6, .int (nI j))] := hl
  have hJ := lH_J hH
  have hn6 : nP B ≤ 6 := hE.1.1
  have hn8 : nO B ≤ 8 := hJ.1.2.1.1
  refine lv_iload hx hb dL_isAssigned_0 (lv_at hl 5 rfl) ?_
  refine lv_aload hx hb dL_isAssigned_2 (lv_at hl 4 rfl) ?_
  refine lv_iconst (v := 1) hx hb dL_isAssigned_4 (by decide) ?_
  refine l_iald (f := 4) (v := (nI (nP B))) (by omega) hx hb hA hH 1 rfl (by rw [show lLen 4 = 3 from rfl]; omega) hE.1.2.2.1 dL_isAssigned_5 ?_
  refine lv_icmp_ge (tgt := 22) hx hb dL_isAssigned_6 (by decide) (fun c_1 => ?_) (fun c_1 => ?_)
  · have c_1 := (nI_leI (a := nP B) (b := i) (by omega) (by omega)).mp c_1
    refine lv_iconst (v := 0) hx hb dL_isAssigned_22 (by decide) ?_
    refine lv_istore (lv' := [(7, .int 0), (0, .ref x), (1, .ref (r 0)), (2, .ref (r 1)), (3, .ref (r 2)), (4, .ref (r 4)), (5, .int (nI i)), (6, .int (nI j))]) hx hb dL_isAssigned_23 hl (by decide) rfl (fun ls hl => ?_)
    refine lv_iload hx hb dL_isAssigned_25 (lv_at hl 0 rfl) ?_
    refine lv_if_eq (tgt := 38) hx hb dL_isAssigned_27 (by decide) (fun _ => ?_) (fun c_2 => absurd c_2 (by decide))
    refine lv_iconst (v := 0) hx hb dL_isAssigned_38 (by decide) ?_
    refine lv_istore (lv' := [(8, .int 0), (7, .int 0), (0, .ref x), (1, .ref (r 0)), (2, .ref (r 1)), (3, .ref (r 2)), (4, .ref (r 4)), (5, .int (nI i)), (6, .int (nI j))]) hx hb dL_isAssigned_39 hl (by decide) rfl (fun ls hl => ?_)
    refine lv_iload hx hb dL_isAssigned_41 (lv_at hl 1 rfl) ?_
    refine lv_if_eq (tgt := 126) hx hb dL_isAssigned_43 (by decide) (fun _ => ?_) (fun c_3 => absurd c_3 (by decide))
    refine lv_iconst (v := 0) hx hb dL_isAssigned_126 (by decide) ?_
    refine lv_istore (lv' := [(9, .int 0), (8, .int 0), (7, .int 0), (0, .ref x), (1, .ref (r 0)), (2, .ref (r 1)), (3, .ref (r 2)), (4, .ref (r 4)), (5, .int (nI i)), (6, .int (nI j))]) hx hb dL_isAssigned_127 hl (by decide) rfl (fun ls hl => ?_)
    refine lv_iconst (v := 0) hx hb dL_isAssigned_129 (by decide) ?_
    refine lv_istore (lv' := [(10, .int 0), (9, .int 0), (8, .int 0), (7, .int 0), (0, .ref x), (1, .ref (r 0)), (2, .ref (r 1)), (3, .ref (r 2)), (4, .ref (r 4)), (5, .int (nI i)), (6, .int (nI j))]) hx hb dL_isAssigned_130 hl (by decide) rfl (fun ls hl => ?_)
    refine lv_iload hx hb dL_isAssigned_132 (lv_at hl 1 rfl) ?_
    refine lv_if_eq (tgt := 187) hx hb dL_isAssigned_134 (by decide) (fun _ => ?_) (fun c_4 => absurd c_4 (by decide))
    refine lv_aload_n hx hb dL_isAssigned_187 rfl (lv_at hl 4 rfl) ?_
    refine lv_bipush (v := 6) hx hb dL_isAssigned_188 (by decide) ?_
    refine lv_iload hx hb dL_isAssigned_190 (lv_at hl 9 rfl) ?_
    refine lv_iload hx hb dL_isAssigned_192 (lv_at hl 10 rfl) ?_
    refine lv_iconst (v := 0) hx hb dL_isAssigned_194 (by decide) ?_
    refine lv_iconst (v := 0) hx hb dL_isAssigned_195 (by decide) ?_
    refine z_xcalli (vx_runSX (As := [.ref x, .int 6, .int (nI i), .int (nI j), .int 0, .int 0]) (rest := []) ⟨hx, hb, hml, hown, hts⟩ (zd_assign l hl9 D cy base x r n B A (nI i) (nI j) 0 0) (vx_cwSW 6 hts gL_isAssigned_L_does rfl rfl rfl (by decide +kernel) ⟨Nat.le_of_ble_eq_true rfl, Nat.le_of_ble_eq_true rfl⟩) (z_preS hA hS hH) rfl rfl hl.1 rfl (lv_room (Nat.le_of_ble_eq_true rfl)) dL_isAssigned_196 ⟨(by show _ ≤ (10 : Nat); omega), (by show _ ≤ (100 : Nat); omega)⟩) hS (fun E9 ce9 q9 u9 H locs hw9 hH hz9 hS hce9 hv9 hcl9 => hw9.elim) (fun r_k_5 u_k_5 H locs hw_k_5 hH hz_k_5 hS => ?_)
    rcases hw_k_5 with ⟨hc_k_5, rfl, hu_k_5⟩ | ⟨hc_k_5, rfl, hu_k_5⟩ | ⟨hc_k_5, rfl, hu_k_5⟩
    · exact absurd (hc_k_5.symm.trans (cdAss1 hJ.1 (by omega) (by omega) (by omega))) (by decide)
    · rw [hu_k_5] at hH
      have hJ_k_5 := lH_J hH
      refine lv_iload hx hb dL_isAssigned_199 (lv_at hl 3 rfl) ?_
      refine lv_if_ne (tgt := 209) hx hb dL_isAssigned_201 (by decide) (fun c_6 => absurd c_6 (by decide)) (fun _ => ?_)
      refine lv_bipush (v := (-30)) hx hb dL_isAssigned_204 (by decide) ?_
      refine lv_goto (tgt := 221) hx hb dL_isAssigned_206 (by decide) ?_
      refine lv_icmp_ne (tgt := 228) hx hb dL_isAssigned_221 (by decide) (fun c_7 => absurd c_7 (by decide)) (fun _ => ?_)
      refine lv_iconst (v := 1) hx hb dL_isAssigned_224 (by decide) ?_
      refine lv_goto (tgt := 229) hx hb dL_isAssigned_225 (by decide) ?_
      exact z_zret hx hb hr hlocks hH hS rfl (⟨rfl, hE, hY⟩) (by omega) (by omega) dL_isAssigned_229
    · exact absurd (hc_k_5.symm.trans (cdAss1 hJ.1 (by omega) (by omega) (by omega))) (by decide)
  · have c_1 : ¬ (nP B ≤ i) := fun z => c_1 ((nI_leI (a := nP B) (b := i) (by omega) (by omega)).mpr z)
    have hi : i < nP B := by omega
    have hix : ix (nI i) = i := ix_nI (by omega)
    have ho10 : oc B i ≤ 10 := (hE.2.2.2.1 i (by omega)).1
    refine lv_iload hx hb dL_isAssigned_9 (lv_at hl 6 rfl) ?_
    refine lv_aload hx hb dL_isAssigned_11 (lv_at hl 4 rfl) ?_
    refine lv_iconst (v := 2) hx hb dL_isAssigned_13 (by decide) ?_
    refine l_iald (f := 4) (v := (nI (nO B))) (by omega) hx hb hA hH 2 rfl (by rw [show lLen 4 = 3 from rfl]; omega) hE.1.2.2.2 dL_isAssigned_14 ?_
    refine lv_icmp_ge (tgt := 22) hx hb dL_isAssigned_15 (by decide) (fun c_8 => ?_) (fun c_8 => ?_)
    · have c_8 := (nI_leI (a := nO B) (b := j) (by omega) (by omega)).mp c_8
      refine lv_iconst (v := 0) hx hb dL_isAssigned_22 (by decide) ?_
      refine lv_istore (lv' := [(7, .int 0), (0, .ref x), (1, .ref (r 0)), (2, .ref (r 1)), (3, .ref (r 2)), (4, .ref (r 4)), (5, .int (nI i)), (6, .int (nI j))]) hx hb dL_isAssigned_23 hl (by decide) rfl (fun ls hl => ?_)
      refine lv_iload hx hb dL_isAssigned_25 (lv_at hl 0 rfl) ?_
      refine lv_if_eq (tgt := 38) hx hb dL_isAssigned_27 (by decide) (fun _ => ?_) (fun c_9 => absurd c_9 (by decide))
      refine lv_iconst (v := 0) hx hb dL_isAssigned_38 (by decide) ?_
      refine lv_istore (lv' := [(8, .int 0), (7, .int 0), (0, .ref x), (1, .ref (r 0)), (2, .ref (r 1)), (3, .ref (r 2)), (4, .ref (r 4)), (5, .int (nI i)), (6, .int (nI j))]) hx hb dL_isAssigned_39 hl (by decide) rfl (fun ls hl => ?_)
      refine lv_iload hx hb dL_isAssigned_41 (lv_at hl 1 rfl) ?_
      refine lv_if_eq (tgt := 126) hx hb dL_isAssigned_43 (by decide) (fun _ => ?_) (fun c_10 => absurd c_10 (by decide))
      refine lv_iconst (v := 0) hx hb dL_isAssigned_126 (by decide) ?_
      refine lv_istore (lv' := [(9, .int 0), (8, .int 0), (7, .int 0), (0, .ref x), (1, .ref (r 0)), (2, .ref (r 1)), (3, .ref (r 2)), (4, .ref (r 4)), (5, .int (nI i)), (6, .int (nI j))]) hx hb dL_isAssigned_127 hl (by decide) rfl (fun ls hl => ?_)
      refine lv_iconst (v := 0) hx hb dL_isAssigned_129 (by decide) ?_
      refine lv_istore (lv' := [(10, .int 0), (9, .int 0), (8, .int 0), (7, .int 0), (0, .ref x), (1, .ref (r 0)), (2, .ref (r 1)), (3, .ref (r 2)), (4, .ref (r 4)), (5, .int (nI i)), (6, .int (nI j))]) hx hb dL_isAssigned_130 hl (by decide) rfl (fun ls hl => ?_)
      refine lv_iload hx hb dL_isAssigned_132 (lv_at hl 1 rfl) ?_
      refine lv_if_eq (tgt := 187) hx hb dL_isAssigned_134 (by decide) (fun _ => ?_) (fun c_11 => absurd c_11 (by decide))
      refine lv_aload_n hx hb dL_isAssigned_187 rfl (lv_at hl 4 rfl) ?_
      refine lv_bipush (v := 6) hx hb dL_isAssigned_188 (by decide) ?_
      refine lv_iload hx hb dL_isAssigned_190 (lv_at hl 9 rfl) ?_
      refine lv_iload hx hb dL_isAssigned_192 (lv_at hl 10 rfl) ?_
      refine lv_iconst (v := 0) hx hb dL_isAssigned_194 (by decide) ?_
      refine lv_iconst (v := 0) hx hb dL_isAssigned_195 (by decide) ?_
      refine z_xcalli (vx_runSX (As := [.ref x, .int 6, .int (nI i), .int (nI j), .int 0, .int 0]) (rest := []) ⟨hx, hb, hml, hown, hts⟩ (zd_assign l hl9 D cy base x r n B A (nI i) (nI j) 0 0) (vx_cwSW 6 hts gL_isAssigned_L_does rfl rfl rfl (by decide +kernel) ⟨Nat.le_of_ble_eq_true rfl, Nat.le_of_ble_eq_true rfl⟩) (z_preS hA hS hH) rfl rfl hl.1 rfl (lv_room (Nat.le_of_ble_eq_true rfl)) dL_isAssigned_196 ⟨(by show _ ≤ (10 : Nat); omega), (by show _ ≤ (100 : Nat); omega)⟩) hS (fun E9 ce9 q9 u9 H locs hw9 hH hz9 hS hce9 hv9 hcl9 => hw9.elim) (fun r_k_12 u_k_12 H locs hw_k_12 hH hz_k_12 hS => ?_)
      rcases hw_k_12 with ⟨hc_k_12, rfl, hu_k_12⟩ | ⟨hc_k_12, rfl, hu_k_12⟩ | ⟨hc_k_12, rfl, hu_k_12⟩
      · exact absurd (hc_k_12.symm.trans (cdAss1 hJ.1 (by omega) (by omega) (by omega))) (by decide)
      · rw [hu_k_12] at hH
        have hJ_k_12 := lH_J hH
        refine lv_iload hx hb dL_isAssigned_199 (lv_at hl 3 rfl) ?_
        refine lv_if_ne (tgt := 209) hx hb dL_isAssigned_201 (by decide) (fun c_13 => absurd c_13 (by decide)) (fun _ => ?_)
        refine lv_bipush (v := (-30)) hx hb dL_isAssigned_204 (by decide) ?_
        refine lv_goto (tgt := 221) hx hb dL_isAssigned_206 (by decide) ?_
        refine lv_icmp_ne (tgt := 228) hx hb dL_isAssigned_221 (by decide) (fun c_14 => absurd c_14 (by decide)) (fun _ => ?_)
        refine lv_iconst (v := 1) hx hb dL_isAssigned_224 (by decide) ?_
        refine lv_goto (tgt := 229) hx hb dL_isAssigned_225 (by decide) ?_
        exact z_zret hx hb hr hlocks hH hS rfl (⟨rfl, hE, hY⟩) (by omega) (by omega) dL_isAssigned_229
      · exact absurd (hc_k_12.symm.trans (cdAss1 hJ.1 (by omega) (by omega) (by omega))) (by decide)
    · have c_8 : ¬ (nO B ≤ j) := fun z => c_8 ((nI_leI (a := nO B) (b := j) (by omega) (by omega)).mpr z)
      have hj : j < nO B := by omega
      have hjx : ix (nI j) = j := ix_nI (by omega)
      have hkk := hJ.1.2.2.2 j hj
      have hkx : kx B j < 3 := hkk.2.1
      refine lv_iconst (v := 1) hx hb dL_isAssigned_18 (by decide) ?_
      refine lv_goto (tgt := 23) hx hb dL_isAssigned_19 (by decide) ?_
      refine lv_istore (lv' := [(7, .int 1), (0, .ref x), (1, .ref (r 0)), (2, .ref (r 1)), (3, .ref (r 2)), (4, .ref (r 4)), (5, .int (nI i)), (6, .int (nI j))]) hx hb dL_isAssigned_23 hl (by decide) rfl (fun ls hl => ?_)
      refine lv_iload hx hb dL_isAssigned_25 (lv_at hl 0 rfl) ?_
      refine lv_if_eq (tgt := 38) hx hb dL_isAssigned_27 (by decide) (fun c_15 => absurd c_15 (by decide)) (fun _ => ?_)
      refine lv_bipush (v := 10) hx hb dL_isAssigned_30 (by decide) ?_
      refine lv_iload hx hb dL_isAssigned_32 (lv_at hl 6 rfl) ?_
      refine lv_imul hx hb dL_isAssigned_34 ?_
      refine lv_eqi (pk_mul 10 i) ?_
      refine lv_goto (tgt := 39) hx hb dL_isAssigned_35 (by decide) ?_
      refine lv_istore (lv' := [(8, .int (nI (10 * i))), (7, .int 1), (0, .ref x), (1, .ref (r 0)), (2, .ref (r 1)), (3, .ref (r 2)), (4, .ref (r 4)), (5, .int (nI i)), (6, .int (nI j))]) hx hb dL_isAssigned_39 hl (by decide) rfl (fun ls hl => ?_)
      refine lv_iload hx hb dL_isAssigned_41 (lv_at hl 1 rfl) ?_
      refine lv_if_eq (tgt := 126) hx hb dL_isAssigned_43 (by decide) (fun c_16 => absurd c_16 (by decide)) (fun _ => ?_)
      refine lv_aload_n hx hb dL_isAssigned_46 rfl (lv_at hl 3 rfl) ?_
      refine lv_iload hx hb dL_isAssigned_47 (lv_at hl 0 rfl) ?_
      refine lv_iconst (v := 4) hx hb dL_isAssigned_49 (by decide) ?_
      refine lv_iadd hx hb dL_isAssigned_50 ?_
      refine lv_eqi (nI_add (10 * i) 4) ?_
      refine l_iald (f := 0) (v := (B 2 i)) (by omega) hx hb hA hH (10 * i + 4) rfl (by rw [show lLen 0 = 60 from rfl]; omega) (hE.2.2.1 i (by omega)).1 dL_isAssigned_51 ?_
      refine lv_if_ne (tgt := 126) hx hb dL_isAssigned_52 (by decide) (fun c_17 => ?_) (fun c_17 => ?_)
      · have h2n : ¬ B 2 i = 0 := c_17
        refine lv_iconst (v := 0) hx hb dL_isAssigned_126 (by decide) ?_
        refine lv_istore (lv' := [(9, .int 0), (8, .int (nI (10 * i))), (7, .int 1), (0, .ref x), (1, .ref (r 0)), (2, .ref (r 1)), (3, .ref (r 2)), (4, .ref (r 4)), (5, .int (nI i)), (6, .int (nI j))]) hx hb dL_isAssigned_127 hl (by decide) rfl (fun ls hl => ?_)
        refine lv_iconst (v := 0) hx hb dL_isAssigned_129 (by decide) ?_
        refine lv_istore (lv' := [(10, .int 0), (9, .int 0), (8, .int (nI (10 * i))), (7, .int 1), (0, .ref x), (1, .ref (r 0)), (2, .ref (r 1)), (3, .ref (r 2)), (4, .ref (r 4)), (5, .int (nI i)), (6, .int (nI j))]) hx hb dL_isAssigned_130 hl (by decide) rfl (fun ls hl => ?_)
        refine lv_iload hx hb dL_isAssigned_132 (lv_at hl 1 rfl) ?_
        refine lv_if_eq (tgt := 187) hx hb dL_isAssigned_134 (by decide) (fun _ => ?_) (fun c_18 => absurd c_18 (by decide))
        refine lv_aload_n hx hb dL_isAssigned_187 rfl (lv_at hl 4 rfl) ?_
        refine lv_bipush (v := 6) hx hb dL_isAssigned_188 (by decide) ?_
        refine lv_iload hx hb dL_isAssigned_190 (lv_at hl 9 rfl) ?_
        refine lv_iload hx hb dL_isAssigned_192 (lv_at hl 10 rfl) ?_
        refine lv_iconst (v := 0) hx hb dL_isAssigned_194 (by decide) ?_
        refine lv_iconst (v := 0) hx hb dL_isAssigned_195 (by decide) ?_
        refine z_xcalli (vx_runSX (As := [.ref x, .int 6, .int (nI i), .int (nI j), .int 0, .int 0]) (rest := []) ⟨hx, hb, hml, hown, hts⟩ (zd_assign l hl9 D cy base x r n B A (nI i) (nI j) 0 0) (vx_cwSW 6 hts gL_isAssigned_L_does rfl rfl rfl (by decide +kernel) ⟨Nat.le_of_ble_eq_true rfl, Nat.le_of_ble_eq_true rfl⟩) (z_preS hA hS hH) rfl rfl hl.1 rfl (lv_room (Nat.le_of_ble_eq_true rfl)) dL_isAssigned_196 ⟨(by show _ ≤ (10 : Nat); omega), (by show _ ≤ (100 : Nat); omega)⟩) hS (fun E9 ce9 q9 u9 H locs hw9 hH hz9 hS hce9 hv9 hcl9 => hw9.elim) (fun r_k_19 u_k_19 H locs hw_k_19 hH hz_k_19 hS => ?_)
        rcases hw_k_19 with ⟨hc_k_19, rfl, hu_k_19⟩ | ⟨hc_k_19, rfl, hu_k_19⟩ | ⟨hc_k_19, rfl, hu_k_19⟩
        · exact absurd (hc_k_19.symm.trans (cdAss2 hJ.1 hi hj hix hjx (fun z => h2n z.1))) (by decide)
        · exact absurd (hc_k_19.symm.trans (cdAss2 hJ.1 hi hj hix hjx (fun z => h2n z.1))) (by decide)
        · rw [hu_k_19] at hH
          have hJ_k_19 := lH_J hH
          refine lv_iload hx hb dL_isAssigned_199 (lv_at hl 3 rfl) ?_
          refine lv_if_ne (tgt := 209) hx hb dL_isAssigned_201 (by decide) (fun _ => ?_) (fun c_20 => absurd c_20 (by decide))
          refine lv_iload hx hb dL_isAssigned_209 (lv_at hl 1 rfl) ?_
          refine lv_if_eq (tgt := 219) hx hb dL_isAssigned_211 (by decide) (fun _ => ?_) (fun c_21 => absurd c_21 (by decide))
          refine lv_bipush (v := (-10)) hx hb dL_isAssigned_219 (by decide) ?_
          refine lv_icmp_ne (tgt := 228) hx hb dL_isAssigned_221 (by decide) (fun c_22 => absurd c_22 (by decide)) (fun _ => ?_)
          refine lv_iconst (v := 1) hx hb dL_isAssigned_224 (by decide) ?_
          refine lv_goto (tgt := 229) hx hb dL_isAssigned_225 (by decide) ?_
          exact z_zret hx hb hr hlocks hH hS rfl (⟨rfl, hE, hY⟩) (by omega) (by omega) dL_isAssigned_229
      · have h2 : B 2 i = 0 := c_17
        refine lv_aload_n hx hb dL_isAssigned_55 rfl (lv_at hl 3 rfl) ?_
        refine lv_iload hx hb dL_isAssigned_56 (lv_at hl 0 rfl) ?_
        refine lv_iconst (v := 3) hx hb dL_isAssigned_58 (by decide) ?_
        refine lv_iadd hx hb dL_isAssigned_59 ?_
        refine lv_eqi (nI_add (10 * i) 3) ?_
        refine l_iald (f := 0) (v := (B 11 i)) (by omega) hx hb hA hH (10 * i + 3) rfl (by rw [show lLen 0 = 60 from rfl]; omega) (hE.2.1 i hi).2.2.2 dL_isAssigned_60 ?_
        refine lv_if_ge (tgt := 126) hx hb dL_isAssigned_61 (by decide) (fun c_23 => ?_) (fun c_23 => ?_)
        · refine lv_iconst (v := 0) hx hb dL_isAssigned_126 (by decide) ?_
          refine lv_istore (lv' := [(9, .int 0), (8, .int (nI (10 * i))), (7, .int 1), (0, .ref x), (1, .ref (r 0)), (2, .ref (r 1)), (3, .ref (r 2)), (4, .ref (r 4)), (5, .int (nI i)), (6, .int (nI j))]) hx hb dL_isAssigned_127 hl (by decide) rfl (fun ls hl => ?_)
          refine lv_iconst (v := 0) hx hb dL_isAssigned_129 (by decide) ?_
          refine lv_istore (lv' := [(10, .int 0), (9, .int 0), (8, .int (nI (10 * i))), (7, .int 1), (0, .ref x), (1, .ref (r 0)), (2, .ref (r 1)), (3, .ref (r 2)), (4, .ref (r 4)), (5, .int (nI i)), (6, .int (nI j))]) hx hb dL_isAssigned_130 hl (by decide) rfl (fun ls hl => ?_)
          refine lv_iload hx hb dL_isAssigned_132 (lv_at hl 1 rfl) ?_
          refine lv_if_eq (tgt := 187) hx hb dL_isAssigned_134 (by decide) (fun _ => ?_) (fun c_24 => absurd c_24 (by decide))
          refine lv_aload_n hx hb dL_isAssigned_187 rfl (lv_at hl 4 rfl) ?_
          refine lv_bipush (v := 6) hx hb dL_isAssigned_188 (by decide) ?_
          refine lv_iload hx hb dL_isAssigned_190 (lv_at hl 9 rfl) ?_
          refine lv_iload hx hb dL_isAssigned_192 (lv_at hl 10 rfl) ?_
          refine lv_iconst (v := 0) hx hb dL_isAssigned_194 (by decide) ?_
          refine lv_iconst (v := 0) hx hb dL_isAssigned_195 (by decide) ?_
          refine z_xcalli (vx_runSX (As := [.ref x, .int 6, .int (nI i), .int (nI j), .int 0, .int 0]) (rest := []) ⟨hx, hb, hml, hown, hts⟩ (zd_assign l hl9 D cy base x r n B A (nI i) (nI j) 0 0) (vx_cwSW 6 hts gL_isAssigned_L_does rfl rfl rfl (by decide +kernel) ⟨Nat.le_of_ble_eq_true rfl, Nat.le_of_ble_eq_true rfl⟩) (z_preS hA hS hH) rfl rfl hl.1 rfl (lv_room (Nat.le_of_ble_eq_true rfl)) dL_isAssigned_196 ⟨(by show _ ≤ (10 : Nat); omega), (by show _ ≤ (100 : Nat); omega)⟩) hS (fun E9 ce9 q9 u9 H locs hw9 hH hz9 hS hce9 hv9 hcl9 => hw9.elim) (fun r_k_25 u_k_25 H locs hw_k_25 hH hz_k_25 hS => ?_)
          rcases hw_k_25 with ⟨hc_k_25, rfl, hu_k_25⟩ | ⟨hc_k_25, rfl, hu_k_25⟩ | ⟨hc_k_25, rfl, hu_k_25⟩
          · exact absurd (hc_k_25.symm.trans (cdAss2 hJ.1 hi hj hix hjx (fun z => (on_ge hJ.1 hi).1.mp c_23 z.2.1))) (by decide)
          · exact absurd (hc_k_25.symm.trans (cdAss2 hJ.1 hi hj hix hjx (fun z => (on_ge hJ.1 hi).1.mp c_23 z.2.1))) (by decide)
          · rw [hu_k_25] at hH
            have hJ_k_25 := lH_J hH
            refine lv_iload hx hb dL_isAssigned_199 (lv_at hl 3 rfl) ?_
            refine lv_if_ne (tgt := 209) hx hb dL_isAssigned_201 (by decide) (fun _ => ?_) (fun c_26 => absurd c_26 (by decide))
            refine lv_iload hx hb dL_isAssigned_209 (lv_at hl 1 rfl) ?_
            refine lv_if_eq (tgt := 219) hx hb dL_isAssigned_211 (by decide) (fun _ => ?_) (fun c_27 => absurd c_27 (by decide))
            refine lv_bipush (v := (-10)) hx hb dL_isAssigned_219 (by decide) ?_
            refine lv_icmp_ne (tgt := 228) hx hb dL_isAssigned_221 (by decide) (fun c_28 => absurd c_28 (by decide)) (fun _ => ?_)
            refine lv_iconst (v := 1) hx hb dL_isAssigned_224 (by decide) ?_
            refine lv_goto (tgt := 229) hx hb dL_isAssigned_225 (by decide) ?_
            exact z_zret hx hb hr hlocks hH hS rfl (⟨rfl, hE, hY⟩) (by omega) (by omega) dL_isAssigned_229
        · refine lv_aload_n hx hb dL_isAssigned_64 rfl (lv_at hl 3 rfl) ?_
          refine lv_iload hx hb dL_isAssigned_65 (lv_at hl 0 rfl) ?_
          refine lv_iconst (v := 2) hx hb dL_isAssigned_67 (by decide) ?_
          refine lv_iadd hx hb dL_isAssigned_68 ?_
          refine lv_eqi (nI_add (10 * i) 2) ?_
          refine l_iald (f := 0) (v := (B 5 i)) (by omega) hx hb hA hH (10 * i + 2) rfl (by rw [show lLen 0 = 60 from rfl]; omega) (hE.2.1 i hi).2.2.1 dL_isAssigned_69 ?_
          refine lv_aload_n hx hb dL_isAssigned_70 rfl (lv_at hl 4 rfl) ?_
          refine lv_iconst (v := 4) hx hb dL_isAssigned_71 (by decide) ?_
          refine lv_iload hx hb dL_isAssigned_72 (lv_at hl 8 rfl) ?_
          refine lv_imul hx hb dL_isAssigned_74 ?_
          refine lv_eqi (pk_mul 4 j) ?_
          refine l_iald (f := 1) (v := (B 23 j)) (by omega) hx hb hA hH (4 * j) rfl (by rw [show lLen 1 = 32 from rfl]; omega) (hE.2.2.2.2.1 j hj).1 dL_isAssigned_75 ?_
          refine lv_ishr hx hb dL_isAssigned_76 ?_
          refine lv_iconst (v := 1) hx hb dL_isAssigned_77 (by decide) ?_
          refine lv_iand hx hb dL_isAssigned_78 ?_
          refine lv_iconst (v := 1) hx hb dL_isAssigned_79 (by decide) ?_
          refine lv_icmp_ne (tgt := 126) hx hb dL_isAssigned_80 (by decide) (fun c_29 => ?_) (fun c_29 => ?_)
          · refine lv_iconst (v := 0) hx hb dL_isAssigned_126 (by decide) ?_
            refine lv_istore (lv' := [(9, .int 0), (8, .int (nI (10 * i))), (7, .int 1), (0, .ref x), (1, .ref (r 0)), (2, .ref (r 1)), (3, .ref (r 2)), (4, .ref (r 4)), (5, .int (nI i)), (6, .int (nI j))]) hx hb dL_isAssigned_127 hl (by decide) rfl (fun ls hl => ?_)
            refine lv_iconst (v := 0) hx hb dL_isAssigned_129 (by decide) ?_
            refine lv_istore (lv' := [(10, .int 0), (9, .int 0), (8, .int (nI (10 * i))), (7, .int 1), (0, .ref x), (1, .ref (r 0)), (2, .ref (r 1)), (3, .ref (r 2)), (4, .ref (r 4)), (5, .int (nI i)), (6, .int (nI j))]) hx hb dL_isAssigned_130 hl (by decide) rfl (fun ls hl => ?_)
            refine lv_iload hx hb dL_isAssigned_132 (lv_at hl 1 rfl) ?_
            refine lv_if_eq (tgt := 187) hx hb dL_isAssigned_134 (by decide) (fun _ => ?_) (fun c_30 => absurd c_30 (by decide))
            refine lv_aload_n hx hb dL_isAssigned_187 rfl (lv_at hl 4 rfl) ?_
            refine lv_bipush (v := 6) hx hb dL_isAssigned_188 (by decide) ?_
            refine lv_iload hx hb dL_isAssigned_190 (lv_at hl 9 rfl) ?_
            refine lv_iload hx hb dL_isAssigned_192 (lv_at hl 10 rfl) ?_
            refine lv_iconst (v := 0) hx hb dL_isAssigned_194 (by decide) ?_
            refine lv_iconst (v := 0) hx hb dL_isAssigned_195 (by decide) ?_
            refine z_xcalli (vx_runSX (As := [.ref x, .int 6, .int (nI i), .int (nI j), .int 0, .int 0]) (rest := []) ⟨hx, hb, hml, hown, hts⟩ (zd_assign l hl9 D cy base x r n B A (nI i) (nI j) 0 0) (vx_cwSW 6 hts gL_isAssigned_L_does rfl rfl rfl (by decide +kernel) ⟨Nat.le_of_ble_eq_true rfl, Nat.le_of_ble_eq_true rfl⟩) (z_preS hA hS hH) rfl rfl hl.1 rfl (lv_room (Nat.le_of_ble_eq_true rfl)) dL_isAssigned_196 ⟨(by show _ ≤ (10 : Nat); omega), (by show _ ≤ (100 : Nat); omega)⟩) hS (fun E9 ce9 q9 u9 H locs hw9 hH hz9 hS hce9 hv9 hcl9 => hw9.elim) (fun r_k_31 u_k_31 H locs hw_k_31 hH hz_k_31 hS => ?_)
            rcases hw_k_31 with ⟨hc_k_31, rfl, hu_k_31⟩ | ⟨hc_k_31, rfl, hu_k_31⟩ | ⟨hc_k_31, rfl, hu_k_31⟩
            · exact absurd (hc_k_31.symm.trans (cdAss2 hJ.1 hi hj hix hjx (fun z => c_29 z.2.2.1))) (by decide)
            · exact absurd (hc_k_31.symm.trans (cdAss2 hJ.1 hi hj hix hjx (fun z => c_29 z.2.2.1))) (by decide)
            · rw [hu_k_31] at hH
              have hJ_k_31 := lH_J hH
              refine lv_iload hx hb dL_isAssigned_199 (lv_at hl 3 rfl) ?_
              refine lv_if_ne (tgt := 209) hx hb dL_isAssigned_201 (by decide) (fun _ => ?_) (fun c_32 => absurd c_32 (by decide))
              refine lv_iload hx hb dL_isAssigned_209 (lv_at hl 1 rfl) ?_
              refine lv_if_eq (tgt := 219) hx hb dL_isAssigned_211 (by decide) (fun _ => ?_) (fun c_33 => absurd c_33 (by decide))
              refine lv_bipush (v := (-10)) hx hb dL_isAssigned_219 (by decide) ?_
              refine lv_icmp_ne (tgt := 228) hx hb dL_isAssigned_221 (by decide) (fun c_34 => absurd c_34 (by decide)) (fun _ => ?_)
              refine lv_iconst (v := 1) hx hb dL_isAssigned_224 (by decide) ?_
              refine lv_goto (tgt := 229) hx hb dL_isAssigned_225 (by decide) ?_
              exact z_zret hx hb hr hlocks hH hS rfl (⟨rfl, hE, hY⟩) (by omega) (by omega) dL_isAssigned_229
          · refine lv_aload_n hx hb dL_isAssigned_83 rfl (lv_at hl 4 rfl) ?_
            refine lv_iconst (v := 4) hx hb dL_isAssigned_84 (by decide) ?_
            refine lv_iload hx hb dL_isAssigned_85 (lv_at hl 8 rfl) ?_
            refine lv_imul hx hb dL_isAssigned_87 ?_
            refine lv_eqi (pk_mul 4 j) ?_
            refine lv_iconst (v := 2) hx hb dL_isAssigned_88 (by decide) ?_
            refine lv_iadd hx hb dL_isAssigned_89 ?_
            refine lv_eqi (nI_add (4 * j) 2) ?_
            refine l_iald (f := 1) (v := (B 25 j)) (by omega) hx hb hA hH (4 * j + 2) rfl (by rw [show lLen 1 = 32 from rfl]; omega) (hE.2.2.2.2.1 j hj).2.2.1 dL_isAssigned_90 ?_
            refine lv_if_le (tgt := 126) hx hb dL_isAssigned_91 (by decide) (fun c_35 => ?_) (fun c_35 => ?_)
            · refine lv_iconst (v := 0) hx hb dL_isAssigned_126 (by decide) ?_
              refine lv_istore (lv' := [(9, .int 0), (8, .int (nI (10 * i))), (7, .int 1), (0, .ref x), (1, .ref (r 0)), (2, .ref (r 1)), (3, .ref (r 2)), (4, .ref (r 4)), (5, .int (nI i)), (6, .int (nI j))]) hx hb dL_isAssigned_127 hl (by decide) rfl (fun ls hl => ?_)
              refine lv_iconst (v := 0) hx hb dL_isAssigned_129 (by decide) ?_
              refine lv_istore (lv' := [(10, .int 0), (9, .int 0), (8, .int (nI (10 * i))), (7, .int 1), (0, .ref x), (1, .ref (r 0)), (2, .ref (r 1)), (3, .ref (r 2)), (4, .ref (r 4)), (5, .int (nI i)), (6, .int (nI j))]) hx hb dL_isAssigned_130 hl (by decide) rfl (fun ls hl => ?_)
              refine lv_iload hx hb dL_isAssigned_132 (lv_at hl 1 rfl) ?_
              refine lv_if_eq (tgt := 187) hx hb dL_isAssigned_134 (by decide) (fun _ => ?_) (fun c_36 => absurd c_36 (by decide))
              refine lv_aload_n hx hb dL_isAssigned_187 rfl (lv_at hl 4 rfl) ?_
              refine lv_bipush (v := 6) hx hb dL_isAssigned_188 (by decide) ?_
              refine lv_iload hx hb dL_isAssigned_190 (lv_at hl 9 rfl) ?_
              refine lv_iload hx hb dL_isAssigned_192 (lv_at hl 10 rfl) ?_
              refine lv_iconst (v := 0) hx hb dL_isAssigned_194 (by decide) ?_
              refine lv_iconst (v := 0) hx hb dL_isAssigned_195 (by decide) ?_
              refine z_xcalli (vx_runSX (As := [.ref x, .int 6, .int (nI i), .int (nI j), .int 0, .int 0]) (rest := []) ⟨hx, hb, hml, hown, hts⟩ (zd_assign l hl9 D cy base x r n B A (nI i) (nI j) 0 0) (vx_cwSW 6 hts gL_isAssigned_L_does rfl rfl rfl (by decide +kernel) ⟨Nat.le_of_ble_eq_true rfl, Nat.le_of_ble_eq_true rfl⟩) (z_preS hA hS hH) rfl rfl hl.1 rfl (lv_room (Nat.le_of_ble_eq_true rfl)) dL_isAssigned_196 ⟨(by show _ ≤ (10 : Nat); omega), (by show _ ≤ (100 : Nat); omega)⟩) hS (fun E9 ce9 q9 u9 H locs hw9 hH hz9 hS hce9 hv9 hcl9 => hw9.elim) (fun r_k_37 u_k_37 H locs hw_k_37 hH hz_k_37 hS => ?_)
              rcases hw_k_37 with ⟨hc_k_37, rfl, hu_k_37⟩ | ⟨hc_k_37, rfl, hu_k_37⟩ | ⟨hc_k_37, rfl, hu_k_37⟩
              · exact absurd (hc_k_37.symm.trans (cdAss2 hJ.1 hi hj hix hjx (fun z => (Int32.not_lt.mpr c_35) z.2.2.2.1))) (by decide)
              · exact absurd (hc_k_37.symm.trans (cdAss2 hJ.1 hi hj hix hjx (fun z => (Int32.not_lt.mpr c_35) z.2.2.2.1))) (by decide)
              · rw [hu_k_37] at hH
                have hJ_k_37 := lH_J hH
                refine lv_iload hx hb dL_isAssigned_199 (lv_at hl 3 rfl) ?_
                refine lv_if_ne (tgt := 209) hx hb dL_isAssigned_201 (by decide) (fun _ => ?_) (fun c_38 => absurd c_38 (by decide))
                refine lv_iload hx hb dL_isAssigned_209 (lv_at hl 1 rfl) ?_
                refine lv_if_eq (tgt := 219) hx hb dL_isAssigned_211 (by decide) (fun _ => ?_) (fun c_39 => absurd c_39 (by decide))
                refine lv_bipush (v := (-10)) hx hb dL_isAssigned_219 (by decide) ?_
                refine lv_icmp_ne (tgt := 228) hx hb dL_isAssigned_221 (by decide) (fun c_40 => absurd c_40 (by decide)) (fun _ => ?_)
                refine lv_iconst (v := 1) hx hb dL_isAssigned_224 (by decide) ?_
                refine lv_goto (tgt := 229) hx hb dL_isAssigned_225 (by decide) ?_
                exact z_zret hx hb hr hlocks hH hS rfl (⟨rfl, hE, hY⟩) (by omega) (by omega) dL_isAssigned_229
            · refine lv_aload_n hx hb dL_isAssigned_94 rfl (lv_at hl 3 rfl) ?_
              refine lv_aload_n hx hb dL_isAssigned_95 rfl (lv_at hl 4 rfl) ?_
              refine lv_aload hx hb dL_isAssigned_96 (lv_at hl 6 rfl) ?_
              refine lv_aload_n hx hb dL_isAssigned_98 rfl (lv_at hl 4 rfl) ?_
              refine lv_iconst (v := 4) hx hb dL_isAssigned_99 (by decide) ?_
              refine lv_iload hx hb dL_isAssigned_100 (lv_at hl 8 rfl) ?_
              refine lv_imul hx hb dL_isAssigned_102 ?_
              refine lv_eqi (pk_mul 4 j) ?_
              refine lv_iconst (v := 1) hx hb dL_isAssigned_103 (by decide) ?_
              refine lv_iadd hx hb dL_isAssigned_104 ?_
              refine lv_eqi (nI_add (4 * j) 1) ?_
              refine l_iald (f := 1) (v := (B 24 j)) (by omega) hx hb hA hH (4 * j + 1) rfl (by rw [show lLen 1 = 32 from rfl]; omega) (hE.2.2.2.2.1 j hj).2.1 dL_isAssigned_105 ?_
              refine z_calli (va_runS (As := [.ref (r 0), .ref (r 1), .ref (r 4), .int (B 24 j)]) (rest := []) ⟨hx, hb, hml, hown, hts⟩ (zl_out l hl9 D cy base x r n B A (by omega) hE (B 24 j)) (va_cwS 4 hts gL_isAssigned_L_out rfl rfl rfl (by decide +kernel) ⟨Nat.le_of_ble_eq_true rfl, Nat.le_of_ble_eq_true rfl⟩) (z_preS hA hS hH) rfl rfl hl.1 rfl (lv_room (Nat.le_of_ble_eq_true rfl)) dL_isAssigned_106 ⟨(by show _ ≤ (10 : Nat); omega), (by show _ ≤ (100 : Nat); omega)⟩) hS (fun r_k_41 u_k_41 H locs hw_k_41 hH hz_k_41 hS => ?_)
              obtain ⟨rfl, hu_k_41⟩ := hw_k_41
              rw [hu_k_41] at hH
              refine lv_aload_n hx hb dL_isAssigned_109 rfl (lv_at hl 5 rfl) ?_
              refine lv_aload_n hx hb dL_isAssigned_110 rfl (lv_at hl 4 rfl) ?_
              refine lv_iconst (v := 4) hx hb dL_isAssigned_111 (by decide) ?_
              refine lv_iload hx hb dL_isAssigned_112 (lv_at hl 8 rfl) ?_
              refine lv_imul hx hb dL_isAssigned_114 ?_
              refine lv_eqi (pk_mul 4 j) ?_
              refine lv_iconst (v := 1) hx hb dL_isAssigned_115 (by decide) ?_
              refine lv_iadd hx hb dL_isAssigned_116 ?_
              refine lv_eqi (nI_add (4 * j) 1) ?_
              refine l_iald (f := 1) (v := (B 24 j)) (by omega) hx hb hA hH (4 * j + 1) rfl (by rw [show lLen 1 = 32 from rfl]; omega) (hE.2.2.2.2.1 j hj).2.1 dL_isAssigned_117 ?_
              refine l_iald (f := 2) (v := (B 21 (kx B j))) (by omega) hx hb hA hH (kx B j) hkk.1 (by rw [show lLen 2 = 9 from rfl]; omega) (hE.2.2.2.2.2 (kx B j) hkx).1 dL_isAssigned_118 ?_
              refine lv_icmp_ge (tgt := 126) hx hb dL_isAssigned_119 (by decide) (fun c_42 => ?_) (fun c_42 => ?_)
              · refine lv_iconst (v := 0) hx hb dL_isAssigned_126 (by decide) ?_
                refine lv_istore (lv' := [(9, .int 0), (8, .int (nI (10 * i))), (7, .int 1), (0, .ref x), (1, .ref (r 0)), (2, .ref (r 1)), (3, .ref (r 2)), (4, .ref (r 4)), (5, .int (nI i)), (6, .int (nI j))]) hx hb dL_isAssigned_127 hl (by decide) rfl (fun ls hl => ?_)
                refine lv_iconst (v := 0) hx hb dL_isAssigned_129 (by decide) ?_
                refine lv_istore (lv' := [(10, .int 0), (9, .int 0), (8, .int (nI (10 * i))), (7, .int 1), (0, .ref x), (1, .ref (r 0)), (2, .ref (r 1)), (3, .ref (r 2)), (4, .ref (r 4)), (5, .int (nI i)), (6, .int (nI j))]) hx hb dL_isAssigned_130 hl (by decide) rfl (fun ls hl => ?_)
                refine lv_iload hx hb dL_isAssigned_132 (lv_at hl 1 rfl) ?_
                refine lv_if_eq (tgt := 187) hx hb dL_isAssigned_134 (by decide) (fun _ => ?_) (fun c_43 => absurd c_43 (by decide))
                refine lv_aload_n hx hb dL_isAssigned_187 rfl (lv_at hl 4 rfl) ?_
                refine lv_bipush (v := 6) hx hb dL_isAssigned_188 (by decide) ?_
                refine lv_iload hx hb dL_isAssigned_190 (lv_at hl 9 rfl) ?_
                refine lv_iload hx hb dL_isAssigned_192 (lv_at hl 10 rfl) ?_
                refine lv_iconst (v := 0) hx hb dL_isAssigned_194 (by decide) ?_
                refine lv_iconst (v := 0) hx hb dL_isAssigned_195 (by decide) ?_
                refine z_xcalli (vx_runSX (As := [.ref x, .int 6, .int (nI i), .int (nI j), .int 0, .int 0]) (rest := []) ⟨hx, hb, hml, hown, hts⟩ (zd_assign l hl9 D cy base x r n B A (nI i) (nI j) 0 0) (vx_cwSW 6 hts gL_isAssigned_L_does rfl rfl rfl (by decide +kernel) ⟨Nat.le_of_ble_eq_true rfl, Nat.le_of_ble_eq_true rfl⟩) (z_preS hA hS hH) rfl rfl hl.1 rfl (lv_room (Nat.le_of_ble_eq_true rfl)) dL_isAssigned_196 ⟨(by show _ ≤ (10 : Nat); omega), (by show _ ≤ (100 : Nat); omega)⟩) hS (fun E9 ce9 q9 u9 H locs hw9 hH hz9 hS hce9 hv9 hcl9 => hw9.elim) (fun r_k_44 u_k_44 H locs hw_k_44 hH hz_k_44 hS => ?_)
                rcases hw_k_44 with ⟨hc_k_44, rfl, hu_k_44⟩ | ⟨hc_k_44, rfl, hu_k_44⟩ | ⟨hc_k_44, rfl, hu_k_44⟩
                · exact absurd (hc_k_44.symm.trans (cdAss2 hJ.1 hi hj hix hjx (fun z => (Int32.not_lt.mpr c_42) z.2.2.2.2))) (by decide)
                · exact absurd (hc_k_44.symm.trans (cdAss2 hJ.1 hi hj hix hjx (fun z => (Int32.not_lt.mpr c_42) z.2.2.2.2))) (by decide)
                · rw [hu_k_44] at hH
                  have hJ_k_44 := lH_J hH
                  refine lv_iload hx hb dL_isAssigned_199 (lv_at hl 3 rfl) ?_
                  refine lv_if_ne (tgt := 209) hx hb dL_isAssigned_201 (by decide) (fun _ => ?_) (fun c_45 => absurd c_45 (by decide))
                  refine lv_iload hx hb dL_isAssigned_209 (lv_at hl 1 rfl) ?_
                  refine lv_if_eq (tgt := 219) hx hb dL_isAssigned_211 (by decide) (fun _ => ?_) (fun c_46 => absurd c_46 (by decide))
                  refine lv_bipush (v := (-10)) hx hb dL_isAssigned_219 (by decide) ?_
                  refine lv_icmp_ne (tgt := 228) hx hb dL_isAssigned_221 (by decide) (fun c_47 => absurd c_47 (by decide)) (fun _ => ?_)
                  refine lv_iconst (v := 1) hx hb dL_isAssigned_224 (by decide) ?_
                  refine lv_goto (tgt := 229) hx hb dL_isAssigned_225 (by decide) ?_
                  exact z_zret hx hb hr hlocks hH hS rfl (⟨rfl, hE, hY⟩) (by omega) (by omega) dL_isAssigned_229
              · refine lv_iconst (v := 1) hx hb dL_isAssigned_122 (by decide) ?_
                refine lv_goto (tgt := 127) hx hb dL_isAssigned_123 (by decide) ?_
                refine lv_istore (lv' := [(9, .int 1), (8, .int (nI (10 * i))), (7, .int 1), (0, .ref x), (1, .ref (r 0)), (2, .ref (r 1)), (3, .ref (r 2)), (4, .ref (r 4)), (5, .int (nI i)), (6, .int (nI j))]) hx hb dL_isAssigned_127 hl (by decide) rfl (fun ls hl => ?_)
                refine lv_iconst (v := 0) hx hb dL_isAssigned_129 (by decide) ?_
                refine lv_istore (lv' := [(10, .int 0), (9, .int 1), (8, .int (nI (10 * i))), (7, .int 1), (0, .ref x), (1, .ref (r 0)), (2, .ref (r 1)), (3, .ref (r 2)), (4, .ref (r 4)), (5, .int (nI i)), (6, .int (nI j))]) hx hb dL_isAssigned_130 hl (by decide) rfl (fun ls hl => ?_)
                refine lv_iload hx hb dL_isAssigned_132 (lv_at hl 1 rfl) ?_
                refine lv_if_eq (tgt := 187) hx hb dL_isAssigned_134 (by decide) (fun c_48 => absurd c_48 (by decide)) (fun _ => ?_)
                refine lv_aload_n hx hb dL_isAssigned_137 rfl (lv_at hl 5 rfl) ?_
                refine lv_iload hx hb dL_isAssigned_138 (lv_at hl 2 rfl) ?_
                refine lv_iconst (v := 3) hx hb dL_isAssigned_140 (by decide) ?_
                refine lv_iadd hx hb dL_isAssigned_141 ?_
                refine lv_eqi (nI_add (10 * i) 3) ?_
                refine lv_iload hx hb dL_isAssigned_142 (lv_at hl 10 rfl) ?_
                refine l_iast (f := 0) (by omega) hx hb hA hH hS (10 * i + 3) rfl (by rw [show lLen 0 = 60 from rfl]; omega) dL_isAssigned_144 (fun H locs hH hS => ?_)
                have hE2 := JE_assign (j := j) hE hi hix
                refine lv_iconst (v := 0) hx hb dL_isAssigned_145 (by decide) ?_
                refine lv_istore (lv' := [(11, .int 0), (10, .int 0), (9, .int 1), (8, .int (nI (10 * i))), (7, .int 1), (0, .ref x), (1, .ref (r 0)), (2, .ref (r 1)), (3, .ref (r 2)), (4, .ref (r 4)), (5, .int (nI i)), (6, .int (nI j))]) hx hb dL_isAssigned_146 hl (by decide) rfl (fun ls hl => ?_)
                have hl_49 : lv_has ls 12 [(0, .ref x), (1, .ref (r 0)), (2, .ref (r 1)), (3, .ref (r 2)), (4, .ref (r 4)), (5, .int (nI i)), (6, .int (nI j)), (7, .int 1), (8, .int (nI (10 * i))), (9, .int 1), (10, .int 0), (11, .int 0)] := lv_sub hl [5, 6, 7, 8, 9, 10, 11, 4, 3, 2, 1, 0] rfl
                have hl_49 : lv_has ls 12 [(0, .ref x), (1, .ref (r 0)), (2, .ref (r 1)), (3, .ref (r 2)), (4, .ref (r 4)), (5, .int (nI i)), (6, .int (nI j)), (7, .int 1), (8, .int (nI (10 * i))), (9, .int 1), (10, .int (sOn (up_assign B (nI i) (nI j)) (nI j) 0)), (11, .int (nI 0))] := hl_49
                refine z_forc (S := lU) (nL := 12) (nP B) (fun k u => u = (B, z2 A 0 (10 * i + 3) (nI j))) (fun k _ => [(0, .ref x), (1, .ref (r 0)), (2, .ref (r 1)), (3, .ref (r 2)), (4, .ref (r 4)), (5, .int (nI i)), (6, .int (nI j)), (7, .int 1), (8, .int (nI (10 * i))), (9, .int 1), (10, .int (sOn (up_assign B (nI i) (nI j)) (nI j) k)), (11, .int (nI k))]) _ 0 _ 0 (rfl) hH hS hl_49 (Nat.le_refl _) (Nat.le_refl _) ?_ ?_
                · intro u H locs ls hI hH hS hl
                  subst hI
                  refine lv_iload hx hb dL_isAssigned_148 (lv_at hl 11 rfl) ?_
                  refine lv_aload hx hb dL_isAssigned_150 (lv_at hl 4 rfl) ?_
                  refine lv_iconst (v := 1) hx hb dL_isAssigned_152 (by decide) ?_
                  refine l_iald (f := 4) (v := (nI (nP B))) (by omega) hx hb hA hH 1 rfl (by rw [show lLen 4 = 3 from rfl]; omega) hE.1.2.2.1 dL_isAssigned_153 ?_
                  refine lv_icmp_ge (tgt := 187) hx hb dL_isAssigned_154 (by decide) (fun _ => ?_) (fun c_50 => absurd ((nI_leI (a := nP B) (b := nP B) (by omega) (by omega)).mpr (by omega)) c_50)
                  refine lv_aload_n hx hb dL_isAssigned_187 rfl (lv_at hl 0 rfl) ?_
                  refine lv_bipush (v := 6) hx hb dL_isAssigned_188 (by decide) ?_
                  refine lv_iload hx hb dL_isAssigned_190 (lv_at hl 5 rfl) ?_
                  refine lv_iload hx hb dL_isAssigned_192 (lv_at hl 6 rfl) ?_
                  refine lv_iconst (v := 0) hx hb dL_isAssigned_194 (by decide) ?_
                  refine lv_iconst (v := 0) hx hb dL_isAssigned_195 (by decide) ?_
                  refine z_xcalli (vx_runSX (As := [.ref x, .int 6, .int (nI i), .int (nI j), .int 0, .int 0]) (rest := []) ⟨hx, hb, hml, hown, hts⟩ (zd_assign l hl9 D cy base x r n B (z2 A 0 (10 * i + 3) (nI j)) (nI i) (nI j) 0 0) (vx_cwSW 6 hts gL_isAssigned_L_does rfl rfl rfl (by decide +kernel) ⟨Nat.le_of_ble_eq_true rfl, Nat.le_of_ble_eq_true rfl⟩) (z_preS hA hS hH) rfl rfl hl.1 rfl (lv_room (Nat.le_of_ble_eq_true rfl)) dL_isAssigned_196 ⟨(by show _ ≤ (10 : Nat); omega), (by show _ ≤ (100 : Nat); omega)⟩) hS (fun E9 ce9 q9 u9 H locs hw9 hH hz9 hS hce9 hv9 hcl9 => hw9.elim) (fun r_k_51 u_k_51 H locs hw_k_51 hH hz_k_51 hS => ?_)
                  rcases hw_k_51 with ⟨hc_k_51, rfl, hu_k_51⟩ | ⟨hc_k_51, rfl, hu_k_51⟩ | ⟨hc_k_51, rfl, hu_k_51⟩
                  · rw [hu_k_51] at hH
                    have hJ_k_51 := lH_J hH
                    refine lv_eqi (show an_assign B (nI i) (nI j) = sOn (up_assign B (nI i) (nI j)) (nI j) (nP B) from rfl) ?_
                    refine lv_iload hx hb dL_isAssigned_199 (lv_at hl 7 rfl) ?_
                    refine lv_if_ne (tgt := 209) hx hb dL_isAssigned_201 (by decide) (fun _ => ?_) (fun c_52 => absurd c_52 (by decide))
                    refine lv_iload hx hb dL_isAssigned_209 (lv_at hl 9 rfl) ?_
                    refine lv_if_eq (tgt := 219) hx hb dL_isAssigned_211 (by decide) (fun c_53 => absurd c_53 (by decide)) (fun _ => ?_)
                    refine lv_iload hx hb dL_isAssigned_214 (lv_at hl 10 rfl) ?_
                    refine lv_goto (tgt := 221) hx hb dL_isAssigned_216 (by decide) ?_
                    refine lv_icmp_ne (tgt := 228) hx hb dL_isAssigned_221 (by decide) (fun c9 => absurd rfl c9) (fun _ => ?_)
                    refine lv_iconst (v := 1) hx hb dL_isAssigned_224 (by decide) ?_
                    refine lv_goto (tgt := 229) hx hb dL_isAssigned_225 (by decide) ?_
                    exact z_zret hx hb hr hlocks hH hS rfl (⟨rfl, hE2, JX_ass hY hix h2⟩) (by omega) (by omega) dL_isAssigned_229
                  · exact absurd (hc_k_51.symm.trans (cdAss0 hJ.1 hi hj hix hjx h2 (Classical.not_not.mp (fun z => c_23 ((on_ge hJ.1 hi).1.mpr z))) c_29 (Int32.not_le.mp c_35) (Int32.not_le.mp c_42))) (by decide)
                  · exact absurd (hc_k_51.symm.trans (cdAss0 hJ.1 hi hj hix hjx h2 (Classical.not_not.mp (fun z => c_23 ((on_ge hJ.1 hi).1.mpr z))) c_29 (Int32.not_le.mp c_35) (Int32.not_le.mp c_42))) (by decide)
                · intro k hk ihk u H locs ls hI hH hS hl
                  subst hI
                  refine lv_iload hx hb dL_isAssigned_148 (lv_at hl 11 rfl) ?_
                  refine lv_aload hx hb dL_isAssigned_150 (lv_at hl 4 rfl) ?_
                  refine lv_iconst (v := 1) hx hb dL_isAssigned_152 (by decide) ?_
                  refine l_iald (f := 4) (v := (nI (nP B))) (by omega) hx hb hA hH 1 rfl (by rw [show lLen 4 = 3 from rfl]; omega) hE.1.2.2.1 dL_isAssigned_153 ?_
                  refine lv_icmp_ge (tgt := 187) hx hb dL_isAssigned_154 (by decide) (fun c_54 => absurd ((nI_leI (a := nP B) (b := k) (by omega) (by omega)).mp c_54) (by omega)) (fun _ => ?_)
                  refine lv_iload hx hb dL_isAssigned_157 (lv_at hl 10 rfl) ?_
                  refine lv_aload_n hx hb dL_isAssigned_159 rfl (lv_at hl 1 rfl) ?_
                  refine lv_bipush (v := 10) hx hb dL_isAssigned_160 (by decide) ?_
                  refine lv_iload hx hb dL_isAssigned_162 (lv_at hl 11 rfl) ?_
                  refine lv_imul hx hb dL_isAssigned_164 ?_
                  refine lv_eqi (pk_mul 10 k) ?_
                  refine lv_iconst (v := 3) hx hb dL_isAssigned_165 (by decide) ?_
                  refine lv_iadd hx hb dL_isAssigned_166 ?_
                  refine lv_eqi (nI_add (10 * k) 3) ?_
                  refine l_iald (f := 0) (v := ((up_assign B (nI i) (nI j)) 11 k)) (by omega) hx hb hA hH (10 * k + 3) rfl (by rw [show lLen 0 = 60 from rfl]; omega) (hE2.2.1 k hk).2.2.2 dL_isAssigned_167 ?_
                  refine lv_iload hx hb dL_isAssigned_168 (lv_at hl 6 rfl) ?_
                  refine lv_icmp_ne (tgt := 177) hx hb dL_isAssigned_170 (by decide) (fun c_55 => ?_) (fun c_55 => ?_)
                  · refine lv_iconst (v := 0) hx hb dL_isAssigned_177 (by decide) ?_
                    refine lv_iadd hx hb dL_isAssigned_178 ?_
                    refine lv_istore (lv' := [(10, .int ((sOn (up_assign B (nI i) (nI j)) (nI j) k) + 0)), (0, .ref x), (1, .ref (r 0)), (2, .ref (r 1)), (3, .ref (r 2)), (4, .ref (r 4)), (5, .int (nI i)), (6, .int (nI j)), (7, .int 1), (8, .int (nI (10 * i))), (9, .int 1), (11, .int (nI k))]) hx hb dL_isAssigned_179 hl (by decide) rfl (fun ls hl => ?_)
                    refine lv_iinc (v := ((nI k) + 1)) (lv' := [(11, .int ((nI k) + 1)), (10, .int ((sOn (up_assign B (nI i) (nI j)) (nI j) k) + 0)), (0, .ref x), (1, .ref (r 0)), (2, .ref (r 1)), (3, .ref (r 2)), (4, .ref (r 4)), (5, .int (nI i)), (6, .int (nI j)), (7, .int 1), (8, .int (nI (10 * i))), (9, .int 1)]) hx hb dL_isAssigned_181 hl (k := 11) rfl rfl (by decide) rfl (fun ls hl => ?_)
                    rw [show (((nI k) + 1) : Int32) = (nI (k + 1)) from nI_add k 1] at hl
                    refine lv_goto (tgt := 148) hx hb dL_isAssigned_184 (by decide) ?_
                    have hl_56 : lv_has ls 12 [(0, .ref x), (1, .ref (r 0)), (2, .ref (r 1)), (3, .ref (r 2)), (4, .ref (r 4)), (5, .int (nI i)), (6, .int (nI j)), (7, .int 1), (8, .int (nI (10 * i))), (9, .int 1), (10, .int ((sOn (up_assign B (nI i) (nI j)) (nI j) k) + 0)), (11, .int (nI (k + 1)))] := lv_sub hl [2, 3, 4, 5, 6, 7, 8, 9, 10, 11, 1, 0] rfl
                    rw [show (((sOn (up_assign B (nI i) (nI j)) (nI j) k) + 0) : Int32) = (sOn (up_assign B (nI i) (nI j)) (nI j) (k + 1)) from ((show sOn (up_assign B (nI i) (nI j)) (nI j) k + (if (up_assign B (nI i) (nI j)) 11 k = nI j then 1 else 0) = sOn (up_assign B (nI i) (nI j)) (nI j) k + 0 by rw [if_neg c_55])).symm] at hl_56
                    have hl_56 : lv_has ls 12 [(0, .ref x), (1, .ref (r 0)), (2, .ref (r 1)), (3, .ref (r 2)), (4, .ref (r 4)), (5, .int (nI i)), (6, .int (nI j)), (7, .int 1), (8, .int (nI (10 * i))), (9, .int 1), (10, .int (sOn (up_assign B (nI i) (nI j)) (nI j) (k + 1))), (11, .int (nI (k + 1)))] := hl_56
                    exact ihk _ _ _ _ _ _ (rfl) hH hS hl_56 (by omega) (by omega)
                  · refine lv_iconst (v := 1) hx hb dL_isAssigned_173 (by decide) ?_
                    refine lv_goto (tgt := 178) hx hb dL_isAssigned_174 (by decide) ?_
                    refine lv_iadd hx hb dL_isAssigned_178 ?_
                    refine lv_istore (lv' := [(10, .int ((sOn (up_assign B (nI i) (nI j)) (nI j) k) + 1)), (0, .ref x), (1, .ref (r 0)), (2, .ref (r 1)), (3, .ref (r 2)), (4, .ref (r 4)), (5, .int (nI i)), (6, .int (nI j)), (7, .int 1), (8, .int (nI (10 * i))), (9, .int 1), (11, .int (nI k))]) hx hb dL_isAssigned_179 hl (by decide) rfl (fun ls hl => ?_)
                    refine lv_iinc (v := ((nI k) + 1)) (lv' := [(11, .int ((nI k) + 1)), (10, .int ((sOn (up_assign B (nI i) (nI j)) (nI j) k) + 1)), (0, .ref x), (1, .ref (r 0)), (2, .ref (r 1)), (3, .ref (r 2)), (4, .ref (r 4)), (5, .int (nI i)), (6, .int (nI j)), (7, .int 1), (8, .int (nI (10 * i))), (9, .int 1)]) hx hb dL_isAssigned_181 hl (k := 11) rfl rfl (by decide) rfl (fun ls hl => ?_)
                    rw [show (((nI k) + 1) : Int32) = (nI (k + 1)) from nI_add k 1] at hl
                    refine lv_goto (tgt := 148) hx hb dL_isAssigned_184 (by decide) ?_
                    have hl_57 : lv_has ls 12 [(0, .ref x), (1, .ref (r 0)), (2, .ref (r 1)), (3, .ref (r 2)), (4, .ref (r 4)), (5, .int (nI i)), (6, .int (nI j)), (7, .int 1), (8, .int (nI (10 * i))), (9, .int 1), (10, .int ((sOn (up_assign B (nI i) (nI j)) (nI j) k) + 1)), (11, .int (nI (k + 1)))] := lv_sub hl [2, 3, 4, 5, 6, 7, 8, 9, 10, 11, 1, 0] rfl
                    rw [show (((sOn (up_assign B (nI i) (nI j)) (nI j) k) + 1) : Int32) = (sOn (up_assign B (nI i) (nI j)) (nI j) (k + 1)) from ((show sOn (up_assign B (nI i) (nI j)) (nI j) k + (if (up_assign B (nI i) (nI j)) 11 k = nI j then 1 else 0) = sOn (up_assign B (nI i) (nI j)) (nI j) k + 1 by rw [if_pos c_55])).symm] at hl_57
                    have hl_57 : lv_has ls 12 [(0, .ref x), (1, .ref (r 0)), (2, .ref (r 1)), (3, .ref (r 2)), (4, .ref (r 4)), (5, .int (nI i)), (6, .int (nI j)), (7, .int 1), (8, .int (nI (10 * i))), (9, .int 1), (10, .int (sOn (up_assign B (nI i) (nI j)) (nI j) (k + 1))), (11, .int (nI (k + 1)))] := hl_57
                    exact ihk _ _ _ _ _ _ (rfl) hH hS hl_57 (by omega) (by omega)
set_option maxHeartbeats 8000000 in
set_option maxRecDepth 100000 in
theorem zl_isBought (l : Launch) (hl9 : l.stackTraces = false) (D : va_G) (cy : Nat → ClassId) (base x : Nat) (r : Nat → Nat) (n : Nat) (B A : mB) (hn : 5 ≤ n) {N : Nat} (hE : JE B A) (hY : JX N B) (i a : Nat) (hi9 : i ≤ nP B) (ha : a < 1002) : Met l yL_isBought wsL_isBought ({ frames := 9, cells := 30, slots := 400, locals := 162 }) (zPc D cy base (lH D cy base x r n) [.ref x, .ref (r 0), .ref (r 4), .int (nI i), .int (nI a)] (B, A)) (zQi base (lH D cy base x r n) (fun (r0 : Int32) (u0 : lU) => r0 = 1 ∧ JE u0.1 u0.2 ∧ JX (N) u0.1)) 30 400 (fun q => base ≤ q) := by
  refine Met.ofW (cc := cL_isBought) (maxL := 8) (ret := (some .boolean)) (by decide) rfl ?_
  intro p e s m args below meth c s₁ B9 hml hv
  obtain ⟨rfl, hA, hH⟩ := hv
  have hx := B9.exec
  have hb := B9.bytes
  have hr := B9.returns
  have hts := atoms_spec (ws := wsL_isBought) B9.pre
  have hown : s.vm.findClass RL = some m.cls := findClass_of_methodNamed B9.named
  have hlocks := B9.notSynchronized
  have hS : va_S (fun q : Nat => base ≤ q) s.heap s.heap [] := va_S.rf
  have hl := lv_entry ([.ref x, .ref (r 0), .ref (r 4), .int (nI i), .int (nI a)]) (n := 8) (Nat.le_of_ble_eq_true rfl)
  rw [lg_entry_eq]
  generalize (lg_sl ([.ref x, .ref (r 0), .ref (r 4), .int (nI i), .int (nI a)]) ++ List.replicate (8 - (lg_sl ([.ref x, .ref (r 0), .ref (r 4), .int (nI i), .int (nI a)])).length) Slot.unset).toArray = ls at hl ⊢
  have hl : lv_has ls 8 [(0, .ref x), (1, .ref (r 0)), (2, .ref (r 4)), (3, .int (nI i)), (4, .int (nI a))] := hl
  have hJ := lH_J hH
  have hn6 : nP B ≤ 6 := hE.1.1
  have hn8 : nO B ≤ 8 := hJ.1.2.1.1
  refine lv_iload_n hx hb dL_isBought_0 rfl (lv_at hl 3 rfl) ?_
  refine lv_aload_n hx hb dL_isBought_1 rfl (lv_at hl 2 rfl) ?_
  refine lv_iconst (v := 1) hx hb dL_isBought_2 (by decide) ?_
  refine l_iald (f := 4) (v := (nI (nP B))) (by omega) hx hb hA hH 1 rfl (by rw [show lLen 4 = 3 from rfl]; omega) hE.1.2.2.1 dL_isBought_3 ?_
  refine lv_icmp_eq (tgt := 21) hx hb dL_isBought_4 (by decide) (fun c_1 => ?_) (fun c_1 => ?_)
  · have c_1 := (nI_eq (a := i) (b := nP B) (by omega) (by omega)).mp c_1
    refine lv_aload_n hx hb dL_isBought_21 rfl (lv_at hl 0 rfl) ?_
    refine lv_bipush (v := 8) hx hb dL_isBought_22 (by decide) ?_
    refine lv_iload_n hx hb dL_isBought_24 rfl (lv_at hl 3 rfl) ?_
    refine lv_iload hx hb dL_isBought_25 (lv_at hl 4 rfl) ?_
    refine lv_iconst (v := 0) hx hb dL_isBought_27 (by decide) ?_
    refine lv_iconst (v := 0) hx hb dL_isBought_28 (by decide) ?_
    refine z_xcalli (vx_runSX (As := [.ref x, .int 8, .int (nI i), .int (nI a), .int 0, .int 0]) (rest := []) ⟨hx, hb, hml, hown, hts⟩ (zd_buy l hl9 D cy base x r n B A (nI i) (nI a) 0 0) (vx_cwSW 6 hts gL_isBought_L_does rfl rfl rfl (by decide +kernel) ⟨Nat.le_of_ble_eq_true rfl, Nat.le_of_ble_eq_true rfl⟩) (z_preS hA hS hH) rfl rfl hl.1 rfl (lv_room (Nat.le_of_ble_eq_true rfl)) dL_isBought_29 ⟨(by show _ ≤ (30 : Nat); omega), (by show _ ≤ (400 : Nat); omega)⟩) hS (fun E9 ce9 q9 u9 H locs hw9 hH hz9 hS hce9 hv9 hcl9 => hw9.elim) (fun r_k_2 u_k_2 H locs hw_k_2 hH hz_k_2 hS => ?_)
    rcases hw_k_2 with ⟨hc_k_2, rfl, hu_k_2⟩ | ⟨hc_k_2, rfl, hu_k_2⟩ | ⟨hc_k_2, rfl, hu_k_2⟩ | ⟨hc_k_2, rfl, hu_k_2⟩
    · exact absurd (hc_k_2.symm.trans (cdBuy1 hJ.1 (by omega) (by omega))) (by decide)
    · rw [hu_k_2] at hH
      have hJ_k_2 := lH_J hH
      refine lv_iload_n hx hb dL_isBought_32 rfl (lv_at hl 3 rfl) ?_
      refine lv_aload_n hx hb dL_isBought_33 rfl (lv_at hl 2 rfl) ?_
      refine lv_iconst (v := 1) hx hb dL_isBought_34 (by decide) ?_
      refine l_iald (f := 4) (v := (nI (nP B))) (by omega) hx hb hA hH 1 rfl (by rw [show lLen 4 = 3 from rfl]; omega) hE.1.2.2.1 dL_isBought_35 ?_
      refine lv_icmp_ne (tgt := 44) hx hb dL_isBought_36 (by decide) (fun c_3 => absurd ((nI_eq (a := i) (b := nP B) (by omega) (by omega)).mpr (by omega)) c_3) (fun _ => ?_)
      refine lv_bipush (v := (-30)) hx hb dL_isBought_39 (by decide) ?_
      refine lv_goto (tgt := 46) hx hb dL_isBought_41 (by decide) ?_
      refine lv_icmp_ne (tgt := 53) hx hb dL_isBought_46 (by decide) (fun c_4 => absurd c_4 (by decide)) (fun _ => ?_)
      refine lv_iconst (v := 1) hx hb dL_isBought_49 (by decide) ?_
      refine lv_goto (tgt := 54) hx hb dL_isBought_50 (by decide) ?_
      exact z_zret hx hb hr hlocks hH hS rfl (⟨rfl, hE, hY⟩) (by omega) (by omega) dL_isBought_54
    · exact absurd (hc_k_2.symm.trans (cdBuy1 hJ.1 (by omega) (by omega))) (by decide)
    · exact absurd (hc_k_2.symm.trans (cdBuy1 hJ.1 (by omega) (by omega))) (by decide)
  · have c_1 : ¬ (i = nP B) := fun z => c_1 ((nI_eq (a := i) (b := nP B) (by omega) (by omega)).mpr z)
    have hi : i < nP B := by omega
    have hix : ix (nI i) = i := ix_nI (by omega)
    have ho10 : oc B i ≤ 10 := (hE.2.2.2.1 i (by omega)).1
    refine lv_iload hx hb dL_isBought_7 (lv_at hl 4 rfl) ?_
    refine lv_iconst (v := 1) hx hb dL_isBought_9 (by decide) ?_
    refine lv_icmp_lt (tgt := 21) hx hb dL_isBought_10 (by decide) (fun c_5 => ?_) (fun c_5 => ?_)
    · have c_5 := (nI_ltI (a := a) (b := 1) (by omega) (by omega)).mp c_5
      refine lv_aload_n hx hb dL_isBought_21 rfl (lv_at hl 0 rfl) ?_
      refine lv_bipush (v := 8) hx hb dL_isBought_22 (by decide) ?_
      refine lv_iload_n hx hb dL_isBought_24 rfl (lv_at hl 3 rfl) ?_
      refine lv_iload hx hb dL_isBought_25 (lv_at hl 4 rfl) ?_
      refine lv_iconst (v := 0) hx hb dL_isBought_27 (by decide) ?_
      refine lv_iconst (v := 0) hx hb dL_isBought_28 (by decide) ?_
      refine z_xcalli (vx_runSX (As := [.ref x, .int 8, .int (nI i), .int (nI a), .int 0, .int 0]) (rest := []) ⟨hx, hb, hml, hown, hts⟩ (zd_buy l hl9 D cy base x r n B A (nI i) (nI a) 0 0) (vx_cwSW 6 hts gL_isBought_L_does rfl rfl rfl (by decide +kernel) ⟨Nat.le_of_ble_eq_true rfl, Nat.le_of_ble_eq_true rfl⟩) (z_preS hA hS hH) rfl rfl hl.1 rfl (lv_room (Nat.le_of_ble_eq_true rfl)) dL_isBought_29 ⟨(by show _ ≤ (30 : Nat); omega), (by show _ ≤ (400 : Nat); omega)⟩) hS (fun E9 ce9 q9 u9 H locs hw9 hH hz9 hS hce9 hv9 hcl9 => hw9.elim) (fun r_k_6 u_k_6 H locs hw_k_6 hH hz_k_6 hS => ?_)
      rcases hw_k_6 with ⟨hc_k_6, rfl, hu_k_6⟩ | ⟨hc_k_6, rfl, hu_k_6⟩ | ⟨hc_k_6, rfl, hu_k_6⟩ | ⟨hc_k_6, rfl, hu_k_6⟩
      · exact absurd (hc_k_6.symm.trans (cdBuy2 hJ.1 hi (by omega) (by omega))) (by decide)
      · exact absurd (hc_k_6.symm.trans (cdBuy2 hJ.1 hi (by omega) (by omega))) (by decide)
      · rw [hu_k_6] at hH
        have hJ_k_6 := lH_J hH
        refine lv_iload_n hx hb dL_isBought_32 rfl (lv_at hl 3 rfl) ?_
        refine lv_aload_n hx hb dL_isBought_33 rfl (lv_at hl 2 rfl) ?_
        refine lv_iconst (v := 1) hx hb dL_isBought_34 (by decide) ?_
        refine l_iald (f := 4) (v := (nI (nP B))) (by omega) hx hb hA hH 1 rfl (by rw [show lLen 4 = 3 from rfl]; omega) hE.1.2.2.1 dL_isBought_35 ?_
        refine lv_icmp_ne (tgt := 44) hx hb dL_isBought_36 (by decide) (fun _ => ?_) (fun c_7 => absurd ((nI_eq (a := i) (b := nP B) (by omega) (by omega)).mp c_7) (by omega))
        refine lv_bipush (v := (-20)) hx hb dL_isBought_44 (by decide) ?_
        refine lv_icmp_ne (tgt := 53) hx hb dL_isBought_46 (by decide) (fun c_8 => absurd c_8 (by decide)) (fun _ => ?_)
        refine lv_iconst (v := 1) hx hb dL_isBought_49 (by decide) ?_
        refine lv_goto (tgt := 54) hx hb dL_isBought_50 (by decide) ?_
        exact z_zret hx hb hr hlocks hH hS rfl (⟨rfl, hE, hY⟩) (by omega) (by omega) dL_isBought_54
      · exact absurd (hc_k_6.symm.trans (cdBuy2 hJ.1 hi (by omega) (by omega))) (by decide)
    · have c_5 : ¬ (a < 1) := fun z => c_5 ((nI_ltI (a := a) (b := 1) (by omega) (by omega)).mpr z)
      refine lv_iload hx hb dL_isBought_13 (lv_at hl 4 rfl) ?_
      refine lv_sipush (v := 1000) hx hb dL_isBought_15 (by decide) ?_
      refine lv_icmp_le (tgt := 55) hx hb dL_isBought_18 (by decide) (fun c_9 => ?_) (fun c_9 => ?_)
      · have c_9 := (nI_leI (a := a) (b := 1000) (by omega) (by omega)).mp c_9
        refine lv_aload_n hx hb dL_isBought_55 rfl (lv_at hl 0 rfl) ?_
        refine lv_iload_n hx hb dL_isBought_56 rfl (lv_at hl 3 rfl) ?_
        refine z_calli (va_runV (As := [.int (nI i)]) (rest := []) ⟨hx, hb, hml, hown, hts⟩ (cq_limit l hl9 D cy base x r n B A hJ.1 i hi) (cwV 1 hts gL_isBought_X5_limit rfl rfl rfl (by decide +kernel) ⟨Nat.le_of_ble_eq_true rfl, Nat.le_of_ble_eq_true rfl⟩) (z_preV hA hS hH (l_recv hA hH)) rfl rfl hl.1 rfl (lv_room (Nat.le_of_ble_eq_true rfl)) dL_isBought_57 ⟨(by show _ ≤ (30 : Nat); omega), (by show _ ≤ (400 : Nat); omega)⟩) hS (fun r_k_10 u_k_10 H locs hw_k_10 hH hz_k_10 hS => ?_)
        obtain ⟨rfl, hu_k_10⟩ := hw_k_10
        rw [hu_k_10] at hH
        refine lv_istore (lv' := [(5, .int (sRest B i)), (0, .ref x), (1, .ref (r 0)), (2, .ref (r 4)), (3, .int (nI i)), (4, .int (nI a))]) hx hb dL_isBought_60 hl (by decide) rfl (fun ls hl => ?_)
        refine lv_aload_n hx hb dL_isBought_62 rfl (lv_at hl 1 rfl) ?_
        refine lv_iload_n hx hb dL_isBought_63 rfl (lv_at hl 4 rfl) ?_
        refine lv_iconst (v := 3) hx hb dL_isBought_64 (by decide) ?_
        refine z_calli (va_runV (As := [.int (nI i), .int 3]) (rest := []) ⟨hx, hb, hml, hown, hts⟩ (cq_account l hl9 D cy base x r n B A hJ.1 i 3 hi (by omega)) (cwV 2 hts gL_isBought_X5_account rfl rfl rfl (by decide +kernel) ⟨Nat.le_of_ble_eq_true rfl, Nat.le_of_ble_eq_true rfl⟩) (z_preV hA hS hH (l_recv hA hH)) rfl rfl hl.1 rfl (lv_room (Nat.le_of_ble_eq_true rfl)) dL_isBought_65 ⟨(by show _ ≤ (30 : Nat); omega), (by show _ ≤ (400 : Nat); omega)⟩) hS (fun r_k_11 u_k_11 H locs hw_k_11 hH hz_k_11 hS => ?_)
        obtain ⟨rfl, hu_k_11⟩ := hw_k_11
        rw [hu_k_11] at hH
        refine lv_istore (lv' := [(6, .int (B 14 (4 * i + 3))), (5, .int (sRest B i)), (0, .ref x), (1, .ref (r 0)), (2, .ref (r 4)), (3, .int (nI i)), (4, .int (nI a))]) hx hb dL_isBought_68 hl (by decide) rfl (fun ls hl => ?_)
        refine lv_aload_n hx hb dL_isBought_70 rfl (lv_at hl 3 rfl) ?_
        refine lv_bipush (v := 10) hx hb dL_isBought_71 (by decide) ?_
        refine lv_iload_n hx hb dL_isBought_73 rfl (lv_at hl 5 rfl) ?_
        refine lv_imul hx hb dL_isBought_74 ?_
        refine lv_eqi (pk_mul 10 i) ?_
        refine lv_iconst (v := 4) hx hb dL_isBought_75 (by decide) ?_
        refine lv_iadd hx hb dL_isBought_76 ?_
        refine lv_eqi (nI_add (10 * i) 4) ?_
        refine l_iald (f := 0) (v := (B 2 i)) (by omega) hx hb hA hH (10 * i + 4) rfl (by rw [show lLen 0 = 60 from rfl]; omega) (hE.2.2.1 i (by omega)).1 dL_isBought_77 ?_
        refine lv_if_ne (tgt := 99) hx hb dL_isBought_78 (by decide) (fun c_12 => ?_) (fun c_12 => ?_)
        · have h2n : ¬ B 2 i = 0 := c_12
          refine lv_iconst (v := 0) hx hb dL_isBought_99 (by decide) ?_
          refine lv_istore (lv' := [(7, .int 0), (6, .int (B 14 (4 * i + 3))), (5, .int (sRest B i)), (0, .ref x), (1, .ref (r 0)), (2, .ref (r 4)), (3, .int (nI i)), (4, .int (nI a))]) hx hb dL_isBought_100 hl (by decide) rfl (fun ls hl => ?_)
          refine lv_aload_n hx hb dL_isBought_102 rfl (lv_at hl 3 rfl) ?_
          refine lv_bipush (v := 8) hx hb dL_isBought_103 (by decide) ?_
          refine lv_iload_n hx hb dL_isBought_105 rfl (lv_at hl 6 rfl) ?_
          refine lv_iload hx hb dL_isBought_106 (lv_at hl 7 rfl) ?_
          refine lv_iconst (v := 0) hx hb dL_isBought_108 (by decide) ?_
          refine lv_iconst (v := 0) hx hb dL_isBought_109 (by decide) ?_
          refine z_xcalli (vx_runSX (As := [.ref x, .int 8, .int (nI i), .int (nI a), .int 0, .int 0]) (rest := []) ⟨hx, hb, hml, hown, hts⟩ (zd_buy l hl9 D cy base x r n B A (nI i) (nI a) 0 0) (vx_cwSW 6 hts gL_isBought_L_does rfl rfl rfl (by decide +kernel) ⟨Nat.le_of_ble_eq_true rfl, Nat.le_of_ble_eq_true rfl⟩) (z_preS hA hS hH) rfl rfl hl.1 rfl (lv_room (Nat.le_of_ble_eq_true rfl)) dL_isBought_110 ⟨(by show _ ≤ (30 : Nat); omega), (by show _ ≤ (400 : Nat); omega)⟩) hS (fun E9 ce9 q9 u9 H locs hw9 hH hz9 hS hce9 hv9 hcl9 => hw9.elim) (fun r_k_13 u_k_13 H locs hw_k_13 hH hz_k_13 hS => ?_)
          rcases hw_k_13 with ⟨hc_k_13, rfl, hu_k_13⟩ | ⟨hc_k_13, rfl, hu_k_13⟩ | ⟨hc_k_13, rfl, hu_k_13⟩ | ⟨hc_k_13, rfl, hu_k_13⟩
          · exact absurd (hc_k_13.symm.trans (cdBuy3 hJ.1 hi hix (by omega) (by omega) (fun z => h2n z.1))) (by decide)
          · exact absurd (hc_k_13.symm.trans (cdBuy3 hJ.1 hi hix (by omega) (by omega) (fun z => h2n z.1))) (by decide)
          · exact absurd (hc_k_13.symm.trans (cdBuy3 hJ.1 hi hix (by omega) (by omega) (fun z => h2n z.1))) (by decide)
          · rw [hu_k_13] at hH
            have hJ_k_13 := lH_J hH
            refine lv_iload hx hb dL_isBought_113 (lv_at hl 0 rfl) ?_
            refine lv_if_eq (tgt := 126) hx hb dL_isBought_115 (by decide) (fun _ => ?_) (fun c_14 => absurd c_14 (by decide))
            refine lv_bipush (v := (-10)) hx hb dL_isBought_126 (by decide) ?_
            refine lv_icmp_ne (tgt := 158) hx hb dL_isBought_128 (by decide) (fun c_15 => absurd c_15 (by decide)) (fun _ => ?_)
            refine lv_aload_n hx hb dL_isBought_131 rfl (lv_at hl 3 rfl) ?_
            refine lv_iload_n hx hb dL_isBought_132 rfl (lv_at hl 6 rfl) ?_
            refine z_calli (va_runV (As := [.int (nI i)]) (rest := []) ⟨hx, hb, hml, hown, hts⟩ (cq_limit l hl9 D cy base x r n B A hJ_k_13.1 i hi) (cwV 1 hts gL_isBought_X5_limit rfl rfl rfl (by decide +kernel) ⟨Nat.le_of_ble_eq_true rfl, Nat.le_of_ble_eq_true rfl⟩) (z_preV hA hS hH (l_recv hA hH)) rfl rfl hl.1 rfl (lv_room (Nat.le_of_ble_eq_true rfl)) dL_isBought_133 ⟨(by show _ ≤ (30 : Nat); omega), (by show _ ≤ (400 : Nat); omega)⟩) hS (fun r_k_16 u_k_16 H locs hw_k_16 hH hz_k_16 hS => ?_)
            obtain ⟨rfl, hu_k_16⟩ := hw_k_16
            rw [hu_k_16] at hH
            refine lv_iload hx hb dL_isBought_136 (lv_at hl 0 rfl) ?_
            refine lv_if_eq (tgt := 149) hx hb dL_isBought_138 (by decide) (fun _ => ?_) (fun c_17 => absurd c_17 (by decide))
            refine lv_iload hx hb dL_isBought_149 (lv_at hl 2 rfl) ?_
            refine lv_icmp_ne (tgt := 158) hx hb dL_isBought_151 (by decide) (fun c9 => absurd rfl c9) (fun _ => ?_)
            refine lv_iconst (v := 1) hx hb dL_isBought_154 (by decide) ?_
            refine lv_goto (tgt := 159) hx hb dL_isBought_155 (by decide) ?_
            exact z_zret hx hb hr hlocks hH hS rfl (⟨rfl, hE, hY⟩) (by omega) (by omega) dL_isBought_159
        · have h2 : B 2 i = 0 := c_12
          refine lv_iload hx hb dL_isBought_81 (lv_at hl 6 rfl) ?_
          refine lv_iload hx hb dL_isBought_83 (lv_at hl 1 rfl) ?_
          refine lv_icmp_gt (tgt := 99) hx hb dL_isBought_85 (by decide) (fun c_18 => ?_) (fun c_18 => ?_)
          · refine lv_iconst (v := 0) hx hb dL_isBought_99 (by decide) ?_
            refine lv_istore (lv' := [(7, .int 0), (6, .int (B 14 (4 * i + 3))), (5, .int (sRest B i)), (0, .ref x), (1, .ref (r 0)), (2, .ref (r 4)), (3, .int (nI i)), (4, .int (nI a))]) hx hb dL_isBought_100 hl (by decide) rfl (fun ls hl => ?_)
            refine lv_aload_n hx hb dL_isBought_102 rfl (lv_at hl 3 rfl) ?_
            refine lv_bipush (v := 8) hx hb dL_isBought_103 (by decide) ?_
            refine lv_iload_n hx hb dL_isBought_105 rfl (lv_at hl 6 rfl) ?_
            refine lv_iload hx hb dL_isBought_106 (lv_at hl 7 rfl) ?_
            refine lv_iconst (v := 0) hx hb dL_isBought_108 (by decide) ?_
            refine lv_iconst (v := 0) hx hb dL_isBought_109 (by decide) ?_
            refine z_xcalli (vx_runSX (As := [.ref x, .int 8, .int (nI i), .int (nI a), .int 0, .int 0]) (rest := []) ⟨hx, hb, hml, hown, hts⟩ (zd_buy l hl9 D cy base x r n B A (nI i) (nI a) 0 0) (vx_cwSW 6 hts gL_isBought_L_does rfl rfl rfl (by decide +kernel) ⟨Nat.le_of_ble_eq_true rfl, Nat.le_of_ble_eq_true rfl⟩) (z_preS hA hS hH) rfl rfl hl.1 rfl (lv_room (Nat.le_of_ble_eq_true rfl)) dL_isBought_110 ⟨(by show _ ≤ (30 : Nat); omega), (by show _ ≤ (400 : Nat); omega)⟩) hS (fun E9 ce9 q9 u9 H locs hw9 hH hz9 hS hce9 hv9 hcl9 => hw9.elim) (fun r_k_19 u_k_19 H locs hw_k_19 hH hz_k_19 hS => ?_)
            rcases hw_k_19 with ⟨hc_k_19, rfl, hu_k_19⟩ | ⟨hc_k_19, rfl, hu_k_19⟩ | ⟨hc_k_19, rfl, hu_k_19⟩ | ⟨hc_k_19, rfl, hu_k_19⟩
            · exact absurd (hc_k_19.symm.trans (cdBuy3 hJ.1 hi hix (by omega) (by omega) (fun z => (Int32.not_le.mpr c_18) z.2.2))) (by decide)
            · exact absurd (hc_k_19.symm.trans (cdBuy3 hJ.1 hi hix (by omega) (by omega) (fun z => (Int32.not_le.mpr c_18) z.2.2))) (by decide)
            · exact absurd (hc_k_19.symm.trans (cdBuy3 hJ.1 hi hix (by omega) (by omega) (fun z => (Int32.not_le.mpr c_18) z.2.2))) (by decide)
            · rw [hu_k_19] at hH
              have hJ_k_19 := lH_J hH
              refine lv_iload hx hb dL_isBought_113 (lv_at hl 0 rfl) ?_
              refine lv_if_eq (tgt := 126) hx hb dL_isBought_115 (by decide) (fun _ => ?_) (fun c_20 => absurd c_20 (by decide))
              refine lv_bipush (v := (-10)) hx hb dL_isBought_126 (by decide) ?_
              refine lv_icmp_ne (tgt := 158) hx hb dL_isBought_128 (by decide) (fun c_21 => absurd c_21 (by decide)) (fun _ => ?_)
              refine lv_aload_n hx hb dL_isBought_131 rfl (lv_at hl 3 rfl) ?_
              refine lv_iload_n hx hb dL_isBought_132 rfl (lv_at hl 6 rfl) ?_
              refine z_calli (va_runV (As := [.int (nI i)]) (rest := []) ⟨hx, hb, hml, hown, hts⟩ (cq_limit l hl9 D cy base x r n B A hJ_k_19.1 i hi) (cwV 1 hts gL_isBought_X5_limit rfl rfl rfl (by decide +kernel) ⟨Nat.le_of_ble_eq_true rfl, Nat.le_of_ble_eq_true rfl⟩) (z_preV hA hS hH (l_recv hA hH)) rfl rfl hl.1 rfl (lv_room (Nat.le_of_ble_eq_true rfl)) dL_isBought_133 ⟨(by show _ ≤ (30 : Nat); omega), (by show _ ≤ (400 : Nat); omega)⟩) hS (fun r_k_22 u_k_22 H locs hw_k_22 hH hz_k_22 hS => ?_)
              obtain ⟨rfl, hu_k_22⟩ := hw_k_22
              rw [hu_k_22] at hH
              refine lv_iload hx hb dL_isBought_136 (lv_at hl 0 rfl) ?_
              refine lv_if_eq (tgt := 149) hx hb dL_isBought_138 (by decide) (fun _ => ?_) (fun c_23 => absurd c_23 (by decide))
              refine lv_iload hx hb dL_isBought_149 (lv_at hl 2 rfl) ?_
              refine lv_icmp_ne (tgt := 158) hx hb dL_isBought_151 (by decide) (fun c9 => absurd rfl c9) (fun _ => ?_)
              refine lv_iconst (v := 1) hx hb dL_isBought_154 (by decide) ?_
              refine lv_goto (tgt := 159) hx hb dL_isBought_155 (by decide) ?_
              exact z_zret hx hb hr hlocks hH hS rfl (⟨rfl, hE, hY⟩) (by omega) (by omega) dL_isBought_159
          · refine lv_iload hx hb dL_isBought_88 (lv_at hl 6 rfl) ?_
            refine lv_iload hx hb dL_isBought_90 (lv_at hl 0 rfl) ?_
            refine lv_icmp_gt (tgt := 99) hx hb dL_isBought_92 (by decide) (fun c_24 => ?_) (fun c_24 => ?_)
            · refine lv_iconst (v := 0) hx hb dL_isBought_99 (by decide) ?_
              refine lv_istore (lv' := [(7, .int 0), (6, .int (B 14 (4 * i + 3))), (5, .int (sRest B i)), (0, .ref x), (1, .ref (r 0)), (2, .ref (r 4)), (3, .int (nI i)), (4, .int (nI a))]) hx hb dL_isBought_100 hl (by decide) rfl (fun ls hl => ?_)
              refine lv_aload_n hx hb dL_isBought_102 rfl (lv_at hl 3 rfl) ?_
              refine lv_bipush (v := 8) hx hb dL_isBought_103 (by decide) ?_
              refine lv_iload_n hx hb dL_isBought_105 rfl (lv_at hl 6 rfl) ?_
              refine lv_iload hx hb dL_isBought_106 (lv_at hl 7 rfl) ?_
              refine lv_iconst (v := 0) hx hb dL_isBought_108 (by decide) ?_
              refine lv_iconst (v := 0) hx hb dL_isBought_109 (by decide) ?_
              refine z_xcalli (vx_runSX (As := [.ref x, .int 8, .int (nI i), .int (nI a), .int 0, .int 0]) (rest := []) ⟨hx, hb, hml, hown, hts⟩ (zd_buy l hl9 D cy base x r n B A (nI i) (nI a) 0 0) (vx_cwSW 6 hts gL_isBought_L_does rfl rfl rfl (by decide +kernel) ⟨Nat.le_of_ble_eq_true rfl, Nat.le_of_ble_eq_true rfl⟩) (z_preS hA hS hH) rfl rfl hl.1 rfl (lv_room (Nat.le_of_ble_eq_true rfl)) dL_isBought_110 ⟨(by show _ ≤ (30 : Nat); omega), (by show _ ≤ (400 : Nat); omega)⟩) hS (fun E9 ce9 q9 u9 H locs hw9 hH hz9 hS hce9 hv9 hcl9 => hw9.elim) (fun r_k_25 u_k_25 H locs hw_k_25 hH hz_k_25 hS => ?_)
              rcases hw_k_25 with ⟨hc_k_25, rfl, hu_k_25⟩ | ⟨hc_k_25, rfl, hu_k_25⟩ | ⟨hc_k_25, rfl, hu_k_25⟩ | ⟨hc_k_25, rfl, hu_k_25⟩
              · exact absurd (hc_k_25.symm.trans (cdBuy3 hJ.1 hi hix (by omega) (by omega) (fun z => (Int32.not_le.mpr c_24) z.2.1))) (by decide)
              · exact absurd (hc_k_25.symm.trans (cdBuy3 hJ.1 hi hix (by omega) (by omega) (fun z => (Int32.not_le.mpr c_24) z.2.1))) (by decide)
              · exact absurd (hc_k_25.symm.trans (cdBuy3 hJ.1 hi hix (by omega) (by omega) (fun z => (Int32.not_le.mpr c_24) z.2.1))) (by decide)
              · rw [hu_k_25] at hH
                have hJ_k_25 := lH_J hH
                refine lv_iload hx hb dL_isBought_113 (lv_at hl 0 rfl) ?_
                refine lv_if_eq (tgt := 126) hx hb dL_isBought_115 (by decide) (fun _ => ?_) (fun c_26 => absurd c_26 (by decide))
                refine lv_bipush (v := (-10)) hx hb dL_isBought_126 (by decide) ?_
                refine lv_icmp_ne (tgt := 158) hx hb dL_isBought_128 (by decide) (fun c_27 => absurd c_27 (by decide)) (fun _ => ?_)
                refine lv_aload_n hx hb dL_isBought_131 rfl (lv_at hl 3 rfl) ?_
                refine lv_iload_n hx hb dL_isBought_132 rfl (lv_at hl 6 rfl) ?_
                refine z_calli (va_runV (As := [.int (nI i)]) (rest := []) ⟨hx, hb, hml, hown, hts⟩ (cq_limit l hl9 D cy base x r n B A hJ_k_25.1 i hi) (cwV 1 hts gL_isBought_X5_limit rfl rfl rfl (by decide +kernel) ⟨Nat.le_of_ble_eq_true rfl, Nat.le_of_ble_eq_true rfl⟩) (z_preV hA hS hH (l_recv hA hH)) rfl rfl hl.1 rfl (lv_room (Nat.le_of_ble_eq_true rfl)) dL_isBought_133 ⟨(by show _ ≤ (30 : Nat); omega), (by show _ ≤ (400 : Nat); omega)⟩) hS (fun r_k_28 u_k_28 H locs hw_k_28 hH hz_k_28 hS => ?_)
                obtain ⟨rfl, hu_k_28⟩ := hw_k_28
                rw [hu_k_28] at hH
                refine lv_iload hx hb dL_isBought_136 (lv_at hl 0 rfl) ?_
                refine lv_if_eq (tgt := 149) hx hb dL_isBought_138 (by decide) (fun _ => ?_) (fun c_29 => absurd c_29 (by decide))
                refine lv_iload hx hb dL_isBought_149 (lv_at hl 2 rfl) ?_
                refine lv_icmp_ne (tgt := 158) hx hb dL_isBought_151 (by decide) (fun c9 => absurd rfl c9) (fun _ => ?_)
                refine lv_iconst (v := 1) hx hb dL_isBought_154 (by decide) ?_
                refine lv_goto (tgt := 159) hx hb dL_isBought_155 (by decide) ?_
                exact z_zret hx hb hr hlocks hH hS rfl (⟨rfl, hE, hY⟩) (by omega) (by omega) dL_isBought_159
            · refine lv_iconst (v := 1) hx hb dL_isBought_95 (by decide) ?_
              refine lv_goto (tgt := 100) hx hb dL_isBought_96 (by decide) ?_
              refine lv_istore (lv' := [(7, .int 1), (6, .int (B 14 (4 * i + 3))), (5, .int (sRest B i)), (0, .ref x), (1, .ref (r 0)), (2, .ref (r 4)), (3, .int (nI i)), (4, .int (nI a))]) hx hb dL_isBought_100 hl (by decide) rfl (fun ls hl => ?_)
              refine lv_aload_n hx hb dL_isBought_102 rfl (lv_at hl 3 rfl) ?_
              refine lv_bipush (v := 8) hx hb dL_isBought_103 (by decide) ?_
              refine lv_iload_n hx hb dL_isBought_105 rfl (lv_at hl 6 rfl) ?_
              refine lv_iload hx hb dL_isBought_106 (lv_at hl 7 rfl) ?_
              refine lv_iconst (v := 0) hx hb dL_isBought_108 (by decide) ?_
              refine lv_iconst (v := 0) hx hb dL_isBought_109 (by decide) ?_
              refine z_xcalli (vx_runSX (As := [.ref x, .int 8, .int (nI i), .int (nI a), .int 0, .int 0]) (rest := []) ⟨hx, hb, hml, hown, hts⟩ (zd_buy l hl9 D cy base x r n B A (nI i) (nI a) 0 0) (vx_cwSW 6 hts gL_isBought_L_does rfl rfl rfl (by decide +kernel) ⟨Nat.le_of_ble_eq_true rfl, Nat.le_of_ble_eq_true rfl⟩) (z_preS hA hS hH) rfl rfl hl.1 rfl (lv_room (Nat.le_of_ble_eq_true rfl)) dL_isBought_110 ⟨(by show _ ≤ (30 : Nat); omega), (by show _ ≤ (400 : Nat); omega)⟩) hS (fun E9 ce9 q9 u9 H locs hw9 hH hz9 hS hce9 hv9 hcl9 => hw9.elim) (fun r_k_30 u_k_30 H locs hw_k_30 hH hz_k_30 hS => ?_)
              rcases hw_k_30 with ⟨hc_k_30, rfl, hu_k_30⟩ | ⟨hc_k_30, rfl, hu_k_30⟩ | ⟨hc_k_30, rfl, hu_k_30⟩ | ⟨hc_k_30, rfl, hu_k_30⟩
              · rw [hu_k_30] at hH
                have hJ_k_30 := lH_J hH
                refine lv_eqi (show an_buy B (nI i) (nI a) = B 14 (4 * i + 3) - nI a by unfold an_buy; rw [hix]) ?_
                refine lv_iload hx hb dL_isBought_113 (lv_at hl 0 rfl) ?_
                refine lv_if_eq (tgt := 126) hx hb dL_isBought_115 (by decide) (fun c_31 => absurd c_31 (by decide)) (fun _ => ?_)
                refine lv_iload hx hb dL_isBought_118 (lv_at hl 1 rfl) ?_
                refine lv_iload hx hb dL_isBought_120 (lv_at hl 7 rfl) ?_
                refine lv_isub hx hb dL_isBought_122 ?_
                refine lv_goto (tgt := 128) hx hb dL_isBought_123 (by decide) ?_
                refine lv_icmp_ne (tgt := 158) hx hb dL_isBought_128 (by decide) (fun c9 => absurd rfl c9) (fun _ => ?_)
                refine lv_aload_n hx hb dL_isBought_131 rfl (lv_at hl 3 rfl) ?_
                refine lv_iload_n hx hb dL_isBought_132 rfl (lv_at hl 6 rfl) ?_
                refine z_calli (va_runV (As := [.int (nI i)]) (rest := []) ⟨hx, hb, hml, hown, hts⟩ (cq_limit l hl9 D cy base x r n (up_buy B (nI i) (nI a)) A hJ_k_30.1 i hi) (cwV 1 hts gL_isBought_X5_limit rfl rfl rfl (by decide +kernel) ⟨Nat.le_of_ble_eq_true rfl, Nat.le_of_ble_eq_true rfl⟩) (z_preV hA hS hH (l_recv hA hH)) rfl rfl hl.1 rfl (lv_room (Nat.le_of_ble_eq_true rfl)) dL_isBought_133 ⟨(by show _ ≤ (30 : Nat); omega), (by show _ ≤ (400 : Nat); omega)⟩) hS (fun r_k_32 u_k_32 H locs hw_k_32 hH hz_k_32 hS => ?_)
                obtain ⟨rfl, hu_k_32⟩ := hw_k_32
                rw [hu_k_32] at hH
                refine lv_iload hx hb dL_isBought_136 (lv_at hl 0 rfl) ?_
                refine lv_if_eq (tgt := 149) hx hb dL_isBought_138 (by decide) (fun c_33 => absurd c_33 (by decide)) (fun _ => ?_)
                refine lv_iload hx hb dL_isBought_141 (lv_at hl 2 rfl) ?_
                refine lv_iload hx hb dL_isBought_143 (lv_at hl 7 rfl) ?_
                refine lv_isub hx hb dL_isBought_145 ?_
                refine lv_goto (tgt := 151) hx hb dL_isBought_146 (by decide) ?_
                refine lv_icmp_ne (tgt := 158) hx hb dL_isBought_151 (by decide) (fun c_34 => absurd (rest_buy hJ hi hix h2 (by omega) (by omega) (Int32.not_lt.mp c_18)) c_34) (fun _ => ?_)
                refine lv_iconst (v := 1) hx hb dL_isBought_154 (by decide) ?_
                refine lv_goto (tgt := 159) hx hb dL_isBought_155 (by decide) ?_
                exact z_zret hx hb hr hlocks hH hS rfl (⟨rfl, JE_buy hE, JX_buy hY hix hi h2 (by omega) (Int32.not_lt.mp c_24)⟩) (by omega) (by omega) dL_isBought_159
              · exact absurd (hc_k_30.symm.trans (cdBuy0 hJ.1 hi hix (by omega) (by omega) h2 (Int32.not_lt.mp c_24) (Int32.not_lt.mp c_18))) (by decide)
              · exact absurd (hc_k_30.symm.trans (cdBuy0 hJ.1 hi hix (by omega) (by omega) h2 (Int32.not_lt.mp c_24) (Int32.not_lt.mp c_18))) (by decide)
              · exact absurd (hc_k_30.symm.trans (cdBuy0 hJ.1 hi hix (by omega) (by omega) h2 (Int32.not_lt.mp c_24) (Int32.not_lt.mp c_18))) (by decide)
      · have c_9 : ¬ (a ≤ 1000) := fun z => c_9 ((nI_leI (a := a) (b := 1000) (by omega) (by omega)).mpr z)
        refine lv_aload_n hx hb dL_isBought_21 rfl (lv_at hl 0 rfl) ?_
        refine lv_bipush (v := 8) hx hb dL_isBought_22 (by decide) ?_
        refine lv_iload_n hx hb dL_isBought_24 rfl (lv_at hl 3 rfl) ?_
        refine lv_iload hx hb dL_isBought_25 (lv_at hl 4 rfl) ?_
        refine lv_iconst (v := 0) hx hb dL_isBought_27 (by decide) ?_
        refine lv_iconst (v := 0) hx hb dL_isBought_28 (by decide) ?_
        refine z_xcalli (vx_runSX (As := [.ref x, .int 8, .int (nI i), .int (nI a), .int 0, .int 0]) (rest := []) ⟨hx, hb, hml, hown, hts⟩ (zd_buy l hl9 D cy base x r n B A (nI i) (nI a) 0 0) (vx_cwSW 6 hts gL_isBought_L_does rfl rfl rfl (by decide +kernel) ⟨Nat.le_of_ble_eq_true rfl, Nat.le_of_ble_eq_true rfl⟩) (z_preS hA hS hH) rfl rfl hl.1 rfl (lv_room (Nat.le_of_ble_eq_true rfl)) dL_isBought_29 ⟨(by show _ ≤ (30 : Nat); omega), (by show _ ≤ (400 : Nat); omega)⟩) hS (fun E9 ce9 q9 u9 H locs hw9 hH hz9 hS hce9 hv9 hcl9 => hw9.elim) (fun r_k_35 u_k_35 H locs hw_k_35 hH hz_k_35 hS => ?_)
        rcases hw_k_35 with ⟨hc_k_35, rfl, hu_k_35⟩ | ⟨hc_k_35, rfl, hu_k_35⟩ | ⟨hc_k_35, rfl, hu_k_35⟩ | ⟨hc_k_35, rfl, hu_k_35⟩
        · exact absurd (hc_k_35.symm.trans (cdBuy2 hJ.1 hi (by omega) (by omega))) (by decide)
        · exact absurd (hc_k_35.symm.trans (cdBuy2 hJ.1 hi (by omega) (by omega))) (by decide)
        · rw [hu_k_35] at hH
          have hJ_k_35 := lH_J hH
          refine lv_iload_n hx hb dL_isBought_32 rfl (lv_at hl 3 rfl) ?_
          refine lv_aload_n hx hb dL_isBought_33 rfl (lv_at hl 2 rfl) ?_
          refine lv_iconst (v := 1) hx hb dL_isBought_34 (by decide) ?_
          refine l_iald (f := 4) (v := (nI (nP B))) (by omega) hx hb hA hH 1 rfl (by rw [show lLen 4 = 3 from rfl]; omega) hE.1.2.2.1 dL_isBought_35 ?_
          refine lv_icmp_ne (tgt := 44) hx hb dL_isBought_36 (by decide) (fun _ => ?_) (fun c_36 => absurd ((nI_eq (a := i) (b := nP B) (by omega) (by omega)).mp c_36) (by omega))
          refine lv_bipush (v := (-20)) hx hb dL_isBought_44 (by decide) ?_
          refine lv_icmp_ne (tgt := 53) hx hb dL_isBought_46 (by decide) (fun c_37 => absurd c_37 (by decide)) (fun _ => ?_)
          refine lv_iconst (v := 1) hx hb dL_isBought_49 (by decide) ?_
          refine lv_goto (tgt := 54) hx hb dL_isBought_50 (by decide) ?_
          exact z_zret hx hb hr hlocks hH hS rfl (⟨rfl, hE, hY⟩) (by omega) (by omega) dL_isBought_54
        · exact absurd (hc_k_35.symm.trans (cdBuy2 hJ.1 hi (by omega) (by omega))) (by decide)
