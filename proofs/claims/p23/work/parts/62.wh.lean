/-- the empty world -/
def zW0 : zW := (fun _ => 0, fun _ _ => 0, fun _ _ => none, fun _ => 0, fun _ _ => 0, fun _ _ => none, fun _ _ => 0)
set_option maxHeartbeats 8000000 in
set_option maxRecDepth 100000 in
theorem whole_start {p : Program} {e : Env} {s : State} {m : MethodId} {below : List Frame} {meth : Method} {c : Code} (l : Launch) (hflags : l.flags = flags0) {b L : Nat} {xs : Nat → Int32} (hL : L ≤ 260) (C0 : lw_At p s m meth c b L xs) : W p l e room_1 s m #[Value.ref b] below meth c s.heap [] 0 0 (lw_Z below #[Value.ref b] s) (entryFrame m ([Value.ref b] : List Value).toArray 9) := by
  obtain ⟨hx, hb, hr, hml, hown, hts0, hX, hbl, hlocks, hgv⟩ := id C0
  have hb : c.code = cL_law := hb
  have hown : s.vm.findClass RL = some m.cls := hown
  have hts : ∀ w ∈ wsL_law, w.before #[Value.ref b] s = true := fun w h => hts0 w (wsL_law_in w h)
  have hl9 : l.stackTraces = false := by
    unfold Launch.stackTraces; rw [hflags]; decide +kernel
  obtain ⟨D, cy, hA⟩ := zA_start C0
  have hbb : b < s.heap.size := hbl
  have hH : zH D cy s.heap.size zW0 s.heap := fun a h => absurd rfl h
  have hS : va_S (fun q : Nat => s.heap.size ≤ q) s.heap s.heap [] := va_S.rf
  have hl := lv_entry ([.ref b]) (n := 9) (Nat.le_of_ble_eq_true rfl)
  rw [lg_entry_eq]
  generalize (lg_sl ([.ref b]) ++ List.replicate (9 - (lg_sl ([.ref b])).length) Slot.unset).toArray = ls at hl ⊢
  have hl : lv_has ls 9 [(0, .ref b)] := hl
  refine z_new (C := RX5) (T := TX5) (N := 6) (ci := 5) (k := 6) (index := 9) hx hb hts inlX5 tyX5 tyX5_ok hown (hts (.classLink RL 9 RX5) (by decide +kernel)) (hts (.instantiable RX5 6) (by decide +kernel)) (hts (.initialized RX5) (by decide +kernel)) hA hH hS rfl zdf_5 (fun q => znew_5 q) (Nat.le_of_ble_eq_true rfl) (Nat.le_of_ble_eq_true rfl) dL_law_0 (fun x H hn1 hH hS => ?_)
  refine lv_dup hx hb dL_law_3 rfl ?_
  have nx := zNew_new (w := zW0) (q := x) (k := 6) (n := 0)
  refine z_callv (va_runI (As := []) (rest := [.ref x]) ⟨hx, hb, hml, hown, hts⟩ (c5_init l D cy s.heap.size (zNew zW0 x 6 0) x nx.1 ⟨nx.2.1 503, nx.2.1 504, nx.2.1 505⟩) (cwI 0 hts gL_law_X5_init rfl rfl rfl (hts (.initialized RX5) (by decide +kernel)) (hts (.methodLink RL 124 yX5_init) (by decide +kernel)) (hts (.instanceMethod yX5_init) (by decide +kernel)) rfl (by decide +kernel) ⟨Nat.le_of_ble_eq_true rfl, Nat.le_of_ble_eq_true rfl⟩) (z_preS hA hS hH) rfl rfl hl.1 rfl (lv_room (Nat.le_of_ble_eq_true rfl)) dL_law_4 ⟨Nat.le_of_ble_eq_true rfl, Nat.le_of_ble_eq_true rfl⟩) hS (fun u H locs hw hH hz hS => ?_)
  obtain ⟨hRep, -⟩ := hw
  refine lv_astore_n (lv' := [(1, .ref x), (0, .ref b)]) hx hb dL_law_7 rfl hl (by decide) rfl (fun ls hl => ?_)
  obtain ⟨A0, hA0⟩ : ∃ A0 : mB, A0 = fun _ _ => 0 := ⟨_, rfl⟩
  obtain ⟨r0, hr0⟩ : ∃ r0 : Nat → Nat, r0 = fun _ => 0 := ⟨_, rfl⟩
  have hE : JE mB0 A0 := by rw [hA0]; exact JE_0
  have hY : JX 0 mB0 := JX_0
  have hH : lH D cy s.heap.size x r0 0 (mB0, A0) H := ⟨u, hH, hRep, J_0, fun f hf => absurd hf (Nat.not_lt_zero f), fun f g hf => absurd hf (Nat.not_lt_zero f)⟩
  refine lv_bipush (v := 60) hx hb dL_law_8 (by decide) ?_
  have hl9_0 : lLen (0) = 60 := rfl
  refine l_newa (v := 60) hx hb (hts (.arrayClass .int) (by decide +kernel)) hA hH hS (by rw [hA0]) (by decide) (by decide) (by show _ ≤ (600104 : Nat); omega) (by show _ ≤ (7301314 : Nat); omega) dL_law_10 (fun r1 H hr1 hH hS => ?_)
  refine lv_astore_n (lv' := [(2, .ref (r1 0)), (1, .ref x), (0, .ref b)]) hx hb dL_law_12 rfl hl (by decide) rfl (fun ls hl => ?_)
  refine lv_bipush (v := 32) hx hb dL_law_13 (by decide) ?_
  have hl9_1 : lLen (0 + 1) = 32 := rfl
  refine l_newa (v := 32) hx hb (hts (.arrayClass .int) (by decide +kernel)) hA hH hS (by rw [hA0]) (by decide) (by decide) (by show _ ≤ (600104 : Nat); omega) (by show _ ≤ (7301314 : Nat); omega) dL_law_15 (fun r2 H hr2 hH hS => ?_)
  rw [← hr2 0 (by decide)] at hl
  refine lv_astore_n (lv' := [(3, .ref (r2 1)), (2, .ref (r2 0)), (1, .ref x), (0, .ref b)]) hx hb dL_law_17 rfl hl (by decide) rfl (fun ls hl => ?_)
  refine lv_bipush (v := 9) hx hb dL_law_18 (by decide) ?_
  have hl9_2 : lLen (0 + 1 + 1) = 9 := rfl
  refine l_newa (v := 9) hx hb (hts (.arrayClass .int) (by decide +kernel)) hA hH hS (by rw [hA0]) (by decide) (by decide) (by show _ ≤ (600104 : Nat); omega) (by show _ ≤ (7301314 : Nat); omega) dL_law_20 (fun r3 H hr3 hH hS => ?_)
  rw [← hr3 0 (by decide), ← hr3 1 (by decide)] at hl
  refine lv_astore (lv' := [(4, .ref (r3 2)), (3, .ref (r3 1)), (2, .ref (r3 0)), (1, .ref x), (0, .ref b)]) hx hb dL_law_22 hl (by decide) rfl (fun ls hl => ?_)
  refine lv_bipush (v := 60) hx hb dL_law_24 (by decide) ?_
  have hl9_3 : lLen (0 + 1 + 1 + 1) = 60 := rfl
  refine l_newa (v := 60) hx hb (hts (.arrayClass .int) (by decide +kernel)) hA hH hS (by rw [hA0]) (by decide) (by decide) (by show _ ≤ (600104 : Nat); omega) (by show _ ≤ (7301314 : Nat); omega) dL_law_26 (fun r4 H hr4 hH hS => ?_)
  rw [← hr4 0 (by decide), ← hr4 1 (by decide), ← hr4 2 (by decide)] at hl
  refine lv_astore (lv' := [(5, .ref (r4 3)), (4, .ref (r4 2)), (3, .ref (r4 1)), (2, .ref (r4 0)), (1, .ref x), (0, .ref b)]) hx hb dL_law_28 hl (by decide) rfl (fun ls hl => ?_)
  refine lv_iconst (v := 3) hx hb dL_law_30 (by decide) ?_
  have hl9_4 : lLen (0 + 1 + 1 + 1 + 1) = 3 := rfl
  refine l_newa (v := 3) hx hb (hts (.arrayClass .int) (by decide +kernel)) hA hH hS (by rw [hA0]) (by decide) (by decide) (by show _ ≤ (600104 : Nat); omega) (by show _ ≤ (7301314 : Nat); omega) dL_law_31 (fun r5 H hr5 hH hS => ?_)
  rw [← hr5 0 (by decide), ← hr5 1 (by decide), ← hr5 2 (by decide), ← hr5 3 (by decide)] at hl
  refine lv_astore (lv' := [(6, .ref (r5 4)), (5, .ref (r5 3)), (4, .ref (r5 2)), (3, .ref (r5 1)), (2, .ref (r5 0)), (1, .ref x), (0, .ref b)]) hx hb dL_law_33 hl (by decide) rfl (fun ls hl => ?_)
  have hH : lH D cy s.heap.size x r5 5 (mB0, A0) H := hH
  refine lv_aload_n hx hb dL_law_35 rfl (lv_at hl 5 rfl) ?_
  refine lv_aload_n hx hb dL_law_36 rfl (lv_at hl 4 rfl) ?_
  refine lv_aload_n hx hb dL_law_37 rfl (lv_at hl 3 rfl) ?_
  refine lv_aload hx hb dL_law_38 (lv_at hl 0 rfl) ?_
  refine z_calli (va_runS (As := [.ref x, .ref (r5 0), .ref (r5 1), .ref (r5 4)]) (rest := []) ⟨hx, hb, hml, hown, hts⟩ (zl_arePeople l hl9 D cy s.heap.size x r5 5 mB0 A0 (by omega) hE hY) (va_cwS 4 hts gL_law_L_arePeople rfl rfl rfl (by decide +kernel) ⟨Nat.le_of_ble_eq_true rfl, Nat.le_of_ble_eq_true rfl⟩) (z_preS hA hS hH) rfl rfl hl.1 rfl (lv_room (Nat.le_of_ble_eq_true rfl)) dL_law_40 ⟨(by show _ ≤ (600104 : Nat); omega), (by show _ ≤ (7301314 : Nat); omega)⟩) hS (fun r_k_1 u_k_1 H locs hw_k_1 hH hz_k_1 hS => ?_)
  obtain ⟨rfl, hu_k_1⟩ := hw_k_1
  rw [hu_k_1] at hH
  refine lv_istore (lv' := [(7, .int 1), (6, .ref (r5 4)), (5, .ref (r5 3)), (4, .ref (r5 2)), (3, .ref (r5 1)), (2, .ref (r5 0)), (1, .ref x), (0, .ref b)]) hx hb dL_law_43 hl (by decide) rfl (fun ls hl => ?_)
  refine lv_iconst (v := 0) hx hb dL_law_45 (by decide) ?_
  refine lv_istore (lv' := [(8, .int 0), (7, .int 1), (6, .ref (r5 4)), (5, .ref (r5 3)), (4, .ref (r5 2)), (3, .ref (r5 1)), (2, .ref (r5 0)), (1, .ref x), (0, .ref b)]) hx hb dL_law_46 hl (by decide) rfl (fun ls hl => ?_)
  have hl_2 : lv_has ls 9 [(0, .ref b), (1, .ref x), (2, .ref (r5 0)), (3, .ref (r5 1)), (4, .ref (r5 2)), (5, .ref (r5 3)), (6, .ref (r5 4)), (7, .int 1), (8, .int 0)] := lv_sub hl [8, 7, 6, 5, 4, 3, 2, 1, 0] rfl
  have hl_2 : lv_has ls 9 [(0, .ref b), (1, .ref x), (2, .ref (r5 0)), (3, .ref (r5 1)), (4, .ref (r5 2)), (5, .ref (r5 3)), (6, .ref (r5 4)), (7, .int 1), (8, .int (nI 0))] := hl_2
  refine z_forc (S := lU) (nL := 9) (60) (fun k u => ∃ B1 A1 : mB, u = (B1, A1) ∧ JE B1 A1 ∧ JX (9 * k) B1) (fun k _ => [(0, .ref b), (1, .ref x), (2, .ref (r5 0)), (3, .ref (r5 1)), (4, .ref (r5 2)), (5, .ref (r5 3)), (6, .ref (r5 4)), (7, .int 1), (8, .int (nI k))]) _ 3300 _ 36800 (⟨mB0, A0, rfl, hE, hY⟩) hH hS hl_2 (Nat.le_refl _) (Nat.le_refl _) ?_ ?_
  · intro u H locs ls hI hH hS hl
    obtain ⟨B1, A1, rfl, hE1, hY1⟩ := hI
    have hJ1 := lH_J hH
    have hn1 : nP B1 ≤ 6 := hE1.1.1
    refine lv_iload hx hb dL_law_48 (lv_at hl 8 rfl) ?_
    refine lv_bipush (v := 60) hx hb dL_law_50 (by decide) ?_
    refine lv_icmp_ge (tgt := 104) hx hb dL_law_52 (by decide) (fun _ => ?_) (fun c_3 => absurd ((nI_leI (a := 60) (b := 60) (by omega) (by omega)).mpr (by omega)) c_3)
    refine lv_iload hx hb dL_law_104 (lv_at hl 7 rfl) ?_
    refine lv_if_eq (tgt := 246) hx hb dL_law_106 (by decide) (fun c_4 => absurd c_4 (by decide)) (fun _ => ?_)
    refine lv_aload_n hx hb dL_law_109 rfl (lv_at hl 1 rfl) ?_
    refine lv_iconst (v := 0) hx hb dL_law_110 (by decide) ?_
    refine lv_iconst (v := 0) hx hb dL_law_111 (by decide) ?_
    refine lv_iconst (v := 0) hx hb dL_law_112 (by decide) ?_
    refine lv_iconst (v := 0) hx hb dL_law_113 (by decide) ?_
    refine lv_iconst (v := 0) hx hb dL_law_114 (by decide) ?_
    refine z_xcalli (vx_runSX (As := [.ref x, .int 0, .int 0, .int 0, .int 0, .int 0]) (rest := []) ⟨hx, hb, hml, hown, hts⟩ (zx_admit_1 l hl9 D cy s.heap.size x r5 5 B1 A1 0 0 0 0 (cdAdmit1 (t := 0) (k := 0) hJ1.1 (by omega) (by omega) (by omega))) (vx_cwSW 6 hts gL_law_L_does rfl rfl rfl (by decide +kernel) ⟨Nat.le_of_ble_eq_true rfl, Nat.le_of_ble_eq_true rfl⟩) (z_preS hA hS hH) rfl rfl hl.1 rfl (lv_room (Nat.le_of_ble_eq_true rfl)) dL_law_115 ⟨Nat.le_of_ble_eq_true rfl, Nat.le_of_ble_eq_true rfl⟩) hS (fun E9 ce9 q9 u9 H locs hw9 hH hz9 hS hce9 hv9 hcl9 => hw9.elim) (fun r_k_5 u_k_5 H locs hw_k_5 hH hz_k_5 hS => ?_)
    obtain ⟨rfl, hu_k_5⟩ := hw_k_5
    rw [hu_k_5] at hH
    refine lv_bipush (v := (-20)) hx hb dL_law_118 (by decide) ?_
    refine lv_icmp_ne (tgt := 246) hx hb dL_law_120 (by decide) (fun c_6 => absurd c_6 (by decide)) (fun _ => ?_)
    refine lv_aload_n hx hb dL_law_123 rfl (lv_at hl 1 rfl) ?_
    refine lv_iconst (v := 1) hx hb dL_law_124 (by decide) ?_
    refine lv_iconst (v := (-1)) hx hb dL_law_125 (by decide) ?_
    refine lv_iconst (v := 0) hx hb dL_law_126 (by decide) ?_
    refine lv_bipush (v := 101) hx hb dL_law_127 (by decide) ?_
    refine lv_iconst (v := 0) hx hb dL_law_129 (by decide) ?_
    refine z_xcalli (vx_runSX (As := [.ref x, .int 1, .int (-1), .int 0, .int 101, .int 0]) (rest := []) ⟨hx, hb, hml, hown, hts⟩ (zx_course_1 l hl9 D cy s.heap.size x r5 5 B1 A1 (-1) 0 101 0 (show cd_course B1 (-1) 0 101 = 1 from if_neg (fun z => vPm hJ1.1 z.1))) (vx_cwSW 6 hts gL_law_L_does rfl rfl rfl (by decide +kernel) ⟨Nat.le_of_ble_eq_true rfl, Nat.le_of_ble_eq_true rfl⟩) (z_preS hA hS hH) rfl rfl hl.1 rfl (lv_room (Nat.le_of_ble_eq_true rfl)) dL_law_130 ⟨Nat.le_of_ble_eq_true rfl, Nat.le_of_ble_eq_true rfl⟩) hS (fun E9 ce9 q9 u9 H locs hw9 hH hz9 hS hce9 hv9 hcl9 => hw9.elim) (fun r_k_7 u_k_7 H locs hw_k_7 hH hz_k_7 hS => ?_)
    obtain ⟨rfl, hu_k_7⟩ := hw_k_7
    rw [hu_k_7] at hH
    refine lv_bipush (v := (-30)) hx hb dL_law_133 (by decide) ?_
    refine lv_icmp_ne (tgt := 246) hx hb dL_law_135 (by decide) (fun c_8 => absurd c_8 (by decide)) (fun _ => ?_)
    refine lv_aload_n hx hb dL_law_138 rfl (lv_at hl 1 rfl) ?_
    refine lv_iconst (v := 2) hx hb dL_law_139 (by decide) ?_
    refine lv_bipush (v := 10) hx hb dL_law_140 (by decide) ?_
    refine lv_iconst (v := 0) hx hb dL_law_142 (by decide) ?_
    refine lv_iconst (v := 0) hx hb dL_law_143 (by decide) ?_
    refine lv_iconst (v := 0) hx hb dL_law_144 (by decide) ?_
    refine z_xcalli (vx_runSX (As := [.ref x, .int 2, .int 10, .int 0, .int 0, .int 0]) (rest := []) ⟨hx, hb, hml, hown, hts⟩ (zx_offence_1 l hl9 D cy s.heap.size x r5 5 B1 A1 10 0 0 0 (show cd_offence B1 10 0 = 1 from if_neg (vPf hJ1.1 (i := 10) (by omega) (by omega)))) (vx_cwSW 6 hts gL_law_L_does rfl rfl rfl (by decide +kernel) ⟨Nat.le_of_ble_eq_true rfl, Nat.le_of_ble_eq_true rfl⟩) (z_preS hA hS hH) rfl rfl hl.1 rfl (lv_room (Nat.le_of_ble_eq_true rfl)) dL_law_145 ⟨Nat.le_of_ble_eq_true rfl, Nat.le_of_ble_eq_true rfl⟩) hS (fun E9 ce9 q9 u9 H locs hw9 hH hz9 hS hce9 hv9 hcl9 => hw9.elim) (fun r_k_9 u_k_9 H locs hw_k_9 hH hz_k_9 hS => ?_)
    obtain ⟨rfl, hu_k_9⟩ := hw_k_9
    rw [hu_k_9] at hH
    refine lv_bipush (v := (-30)) hx hb dL_law_148 (by decide) ?_
    refine lv_icmp_ne (tgt := 246) hx hb dL_law_150 (by decide) (fun c_10 => absurd c_10 (by decide)) (fun _ => ?_)
    refine lv_aload_n hx hb dL_law_153 rfl (lv_at hl 1 rfl) ?_
    refine lv_iconst (v := 3) hx hb dL_law_154 (by decide) ?_
    refine lv_bipush (v := 10) hx hb dL_law_155 (by decide) ?_
    refine lv_iconst (v := 0) hx hb dL_law_157 (by decide) ?_
    refine lv_iconst (v := 0) hx hb dL_law_158 (by decide) ?_
    refine lv_iconst (v := 0) hx hb dL_law_159 (by decide) ?_
    refine z_xcalli (vx_runSX (As := [.ref x, .int 3, .int 10, .int 0, .int 0, .int 0]) (rest := []) ⟨hx, hb, hml, hown, hts⟩ (zx_appeal_1 l hl9 D cy s.heap.size x r5 5 B1 A1 10 0 0 0 (show cd_appeal B1 10 0 = 1 from if_neg (fun z => (vPf hJ1.1 (i := 10) (by omega) (by omega)) z.1))) (vx_cwSW 6 hts gL_law_L_does rfl rfl rfl (by decide +kernel) ⟨Nat.le_of_ble_eq_true rfl, Nat.le_of_ble_eq_true rfl⟩) (z_preS hA hS hH) rfl rfl hl.1 rfl (lv_room (Nat.le_of_ble_eq_true rfl)) dL_law_160 ⟨Nat.le_of_ble_eq_true rfl, Nat.le_of_ble_eq_true rfl⟩) hS (fun E9 ce9 q9 u9 H locs hw9 hH hz9 hS hce9 hv9 hcl9 => hw9.elim) (fun r_k_11 u_k_11 H locs hw_k_11 hH hz_k_11 hS => ?_)
    obtain ⟨rfl, hu_k_11⟩ := hw_k_11
    rw [hu_k_11] at hH
    refine lv_bipush (v := (-30)) hx hb dL_law_163 (by decide) ?_
    refine lv_icmp_ne (tgt := 246) hx hb dL_law_165 (by decide) (fun c_12 => absurd c_12 (by decide)) (fun _ => ?_)
    refine lv_aload_n hx hb dL_law_168 rfl (lv_at hl 1 rfl) ?_
    refine lv_iconst (v := 4) hx hb dL_law_169 (by decide) ?_
    refine lv_iconst (v := 3) hx hb dL_law_170 (by decide) ?_
    refine lv_iconst (v := 0) hx hb dL_law_171 (by decide) ?_
    refine lv_iconst (v := 0) hx hb dL_law_172 (by decide) ?_
    refine lv_iconst (v := 0) hx hb dL_law_173 (by decide) ?_
    refine z_xcalli (vx_runSX (As := [.ref x, .int 4, .int 3, .int 0, .int 0, .int 0]) (rest := []) ⟨hx, hb, hml, hown, hts⟩ (zx_setTools_1 l hl9 D cy s.heap.size x r5 5 B1 A1 3 0 0 0 (cdTool1 (k := 3) hJ1.1 (by omega) (by omega))) (vx_cwSW 6 hts gL_law_L_does rfl rfl rfl (by decide +kernel) ⟨Nat.le_of_ble_eq_true rfl, Nat.le_of_ble_eq_true rfl⟩) (z_preS hA hS hH) rfl rfl hl.1 rfl (lv_room (Nat.le_of_ble_eq_true rfl)) dL_law_174 ⟨Nat.le_of_ble_eq_true rfl, Nat.le_of_ble_eq_true rfl⟩) hS (fun E9 ce9 q9 u9 H locs hw9 hH hz9 hS hce9 hv9 hcl9 => hw9.elim) (fun r_k_13 u_k_13 H locs hw_k_13 hH hz_k_13 hS => ?_)
    obtain ⟨rfl, hu_k_13⟩ := hw_k_13
    rw [hu_k_13] at hH
    refine lv_bipush (v := (-30)) hx hb dL_law_177 (by decide) ?_
    refine lv_icmp_ne (tgt := 246) hx hb dL_law_179 (by decide) (fun c_14 => absurd c_14 (by decide)) (fun _ => ?_)
    refine lv_aload_n hx hb dL_law_182 rfl (lv_at hl 1 rfl) ?_
    refine lv_iconst (v := 5) hx hb dL_law_183 (by decide) ?_
    refine lv_iconst (v := 4) hx hb dL_law_184 (by decide) ?_
    refine lv_iconst (v := 0) hx hb dL_law_185 (by decide) ?_
    refine lv_iconst (v := 0) hx hb dL_law_186 (by decide) ?_
    refine lv_iconst (v := 0) hx hb dL_law_187 (by decide) ?_
    refine z_xcalli (vx_runSX (As := [.ref x, .int 5, .int 4, .int 0, .int 0, .int 0]) (rest := []) ⟨hx, hb, hml, hown, hts⟩ (zx_addOrder_1 l hl9 D cy s.heap.size x r5 5 B1 A1 4 0 0 0 (cdOrd1 (a := 4) (k := 0) hJ1.1 (by omega) (by omega) (by omega))) (vx_cwSW 6 hts gL_law_L_does rfl rfl rfl (by decide +kernel) ⟨Nat.le_of_ble_eq_true rfl, Nat.le_of_ble_eq_true rfl⟩) (z_preS hA hS hH) rfl rfl hl.1 rfl (lv_room (Nat.le_of_ble_eq_true rfl)) dL_law_188 ⟨Nat.le_of_ble_eq_true rfl, Nat.le_of_ble_eq_true rfl⟩) hS (fun E9 ce9 q9 u9 H locs hw9 hH hz9 hS hce9 hv9 hcl9 => hw9.elim) (fun r_k_15 u_k_15 H locs hw_k_15 hH hz_k_15 hS => ?_)
    obtain ⟨rfl, hu_k_15⟩ := hw_k_15
    rw [hu_k_15] at hH
    refine lv_bipush (v := (-30)) hx hb dL_law_191 (by decide) ?_
    refine lv_icmp_ne (tgt := 246) hx hb dL_law_193 (by decide) (fun c_16 => absurd c_16 (by decide)) (fun _ => ?_)
    refine lv_aload_n hx hb dL_law_196 rfl (lv_at hl 1 rfl) ?_
    refine lv_bipush (v := 6) hx hb dL_law_197 (by decide) ?_
    refine lv_bipush (v := 10) hx hb dL_law_199 (by decide) ?_
    refine lv_iconst (v := 0) hx hb dL_law_201 (by decide) ?_
    refine lv_iconst (v := 0) hx hb dL_law_202 (by decide) ?_
    refine lv_iconst (v := 0) hx hb dL_law_203 (by decide) ?_
    refine z_xcalli (vx_runSX (As := [.ref x, .int 6, .int 10, .int 0, .int 0, .int 0]) (rest := []) ⟨hx, hb, hml, hown, hts⟩ (zx_assign_1 l hl9 D cy s.heap.size x r5 5 B1 A1 10 0 0 0 (show cd_assign B1 10 0 = 1 from if_neg (fun z => (vPf hJ1.1 (i := 10) (by omega) (by omega)) z.1))) (vx_cwSW 6 hts gL_law_L_does rfl rfl rfl (by decide +kernel) ⟨Nat.le_of_ble_eq_true rfl, Nat.le_of_ble_eq_true rfl⟩) (z_preS hA hS hH) rfl rfl hl.1 rfl (lv_room (Nat.le_of_ble_eq_true rfl)) dL_law_204 ⟨Nat.le_of_ble_eq_true rfl, Nat.le_of_ble_eq_true rfl⟩) hS (fun E9 ce9 q9 u9 H locs hw9 hH hz9 hS hce9 hv9 hcl9 => hw9.elim) (fun r_k_17 u_k_17 H locs hw_k_17 hH hz_k_17 hS => ?_)
    obtain ⟨rfl, hu_k_17⟩ := hw_k_17
    rw [hu_k_17] at hH
    refine lv_bipush (v := (-30)) hx hb dL_law_207 (by decide) ?_
    refine lv_icmp_ne (tgt := 246) hx hb dL_law_209 (by decide) (fun c_18 => absurd c_18 (by decide)) (fun _ => ?_)
    refine lv_aload_n hx hb dL_law_212 rfl (lv_at hl 1 rfl) ?_
    refine lv_bipush (v := 7) hx hb dL_law_213 (by decide) ?_
    refine lv_iconst (v := (-1)) hx hb dL_law_215 (by decide) ?_
    refine lv_iconst (v := 0) hx hb dL_law_216 (by decide) ?_
    refine lv_iconst (v := 0) hx hb dL_law_217 (by decide) ?_
    refine lv_iconst (v := 0) hx hb dL_law_218 (by decide) ?_
    refine z_xcalli (vx_runSX (As := [.ref x, .int 7, .int (-1), .int 0, .int 0, .int 0]) (rest := []) ⟨hx, hb, hml, hown, hts⟩ (zx_takeOff_1 l hl9 D cy s.heap.size x r5 5 B1 A1 (-1) 0 0 0 (show cd_takeOff B1 (-1) = 1 from if_neg (vPm hJ1.1))) (vx_cwSW 6 hts gL_law_L_does rfl rfl rfl (by decide +kernel) ⟨Nat.le_of_ble_eq_true rfl, Nat.le_of_ble_eq_true rfl⟩) (z_preS hA hS hH) rfl rfl hl.1 rfl (lv_room (Nat.le_of_ble_eq_true rfl)) dL_law_219 ⟨Nat.le_of_ble_eq_true rfl, Nat.le_of_ble_eq_true rfl⟩) hS (fun E9 ce9 q9 u9 H locs hw9 hH hz9 hS hce9 hv9 hcl9 => hw9.elim) (fun r_k_19 u_k_19 H locs hw_k_19 hH hz_k_19 hS => ?_)
    obtain ⟨rfl, hu_k_19⟩ := hw_k_19
    rw [hu_k_19] at hH
    refine lv_bipush (v := (-30)) hx hb dL_law_222 (by decide) ?_
    refine lv_icmp_ne (tgt := 246) hx hb dL_law_224 (by decide) (fun c_20 => absurd c_20 (by decide)) (fun _ => ?_)
    refine lv_aload_n hx hb dL_law_227 rfl (lv_at hl 1 rfl) ?_
    refine lv_bipush (v := 8) hx hb dL_law_228 (by decide) ?_
    refine lv_iconst (v := (-1)) hx hb dL_law_230 (by decide) ?_
    refine lv_iconst (v := 0) hx hb dL_law_231 (by decide) ?_
    refine lv_iconst (v := 0) hx hb dL_law_232 (by decide) ?_
    refine lv_iconst (v := 0) hx hb dL_law_233 (by decide) ?_
    refine z_xcalli (vx_runSX (As := [.ref x, .int 8, .int (-1), .int 0, .int 0, .int 0]) (rest := []) ⟨hx, hb, hml, hown, hts⟩ (zx_buy_1 l hl9 D cy s.heap.size x r5 5 B1 A1 (-1) 0 0 0 (show cd_buy B1 (-1) 0 = 1 from if_neg (vPm hJ1.1))) (vx_cwSW 6 hts gL_law_L_does rfl rfl rfl (by decide +kernel) ⟨Nat.le_of_ble_eq_true rfl, Nat.le_of_ble_eq_true rfl⟩) (z_preS hA hS hH) rfl rfl hl.1 rfl (lv_room (Nat.le_of_ble_eq_true rfl)) dL_law_234 ⟨Nat.le_of_ble_eq_true rfl, Nat.le_of_ble_eq_true rfl⟩) hS (fun E9 ce9 q9 u9 H locs hw9 hH hz9 hS hce9 hv9 hcl9 => hw9.elim) (fun r_k_21 u_k_21 H locs hw_k_21 hH hz_k_21 hS => ?_)
    obtain ⟨rfl, hu_k_21⟩ := hw_k_21
    rw [hu_k_21] at hH
    refine lv_bipush (v := (-30)) hx hb dL_law_237 (by decide) ?_
    refine lv_icmp_ne (tgt := 246) hx hb dL_law_239 (by decide) (fun c_22 => absurd c_22 (by decide)) (fun _ => ?_)
    refine lv_iconst (v := 1) hx hb dL_law_242 (by decide) ?_
    refine lv_goto (tgt := 247) hx hb dL_law_243 (by decide) ?_
    refine va_forget (fun q hq => hS.2.2 q hq) ?_
    refine W.widen (k := 600104) (n := 7301314) (Nat.le_of_ble_eq_true rfl) (Nat.le_of_ble_eq_true rfl) ?_
    exact lw_ret hx hb hr hlocks dL_law_247
  · intro k hk ihk u H locs ls hI hH hS hl
    obtain ⟨B1, A1, rfl, hE1, hY1⟩ := hI
    have hJ1 := lH_J hH
    have hn1 : nP B1 ≤ 6 := hE1.1.1
    refine lv_iload hx hb dL_law_48 (lv_at hl 8 rfl) ?_
    refine lv_bipush (v := 60) hx hb dL_law_50 (by decide) ?_
    refine lv_icmp_ge (tgt := 104) hx hb dL_law_52 (by decide) (fun c_23 => absurd ((nI_leI (a := 60) (b := k) (by omega) (by omega)).mp c_23) (by omega)) (fun _ => ?_)
    refine lv_iload hx hb dL_law_55 (lv_at hl 7 rfl) ?_
    refine lv_if_eq (tgt := 104) hx hb dL_law_57 (by decide) (fun c_24 => absurd c_24 (by decide)) (fun _ => ?_)
    refine lv_aload_n hx hb dL_law_60 rfl (lv_at hl 1 rfl) ?_
    refine lv_aload_n hx hb dL_law_61 rfl (lv_at hl 0 rfl) ?_
    refine lv_iconst (v := 4) hx hb dL_law_62 (by decide) ?_
    refine lv_iload hx hb dL_law_63 (lv_at hl 8 rfl) ?_
    refine lv_imul hx hb dL_law_65 ?_
    refine lv_eqi (pk_mul 4 k) ?_
    refine lv_aload_n hx hb dL_law_66 rfl (lv_at hl 2 rfl) ?_
    refine lv_aload_n hx hb dL_law_67 rfl (lv_at hl 3 rfl) ?_
    refine lv_aload hx hb dL_law_68 (lv_at hl 4 rfl) ?_
    refine lv_aload hx hb dL_law_70 (lv_at hl 5 rfl) ?_
    refine lv_aload hx hb dL_law_72 (lv_at hl 6 rfl) ?_
    refine z_calli (va_runS (As := [.ref x, .ref b, .int (nI (4 * k)), .ref (r5 0), .ref (r5 1), .ref (r5 2), .ref (r5 3), .ref (r5 4)]) (rest := []) ⟨hx, hb, hml, hown, hts⟩ (zl_isDone l hl9 D cy s.heap.size x r5 B1 A1 b L xs hL hE1 hY1 (by omega) k hk) (va_cwS 8 hts gL_law_L_isDone rfl rfl rfl (by decide +kernel) ⟨Nat.le_of_ble_eq_true rfl, Nat.le_of_ble_eq_true rfl⟩) (z_preSs hA hS hH hX hbl hbb) rfl rfl hl.1 rfl (lv_room (Nat.le_of_ble_eq_true rfl)) dL_law_74 ⟨(by show _ ≤ (600104 : Nat); omega), (by show _ ≤ (7301314 : Nat); omega)⟩) hS (fun r_k_25 u_k_25 H locs hw_k_25 hH hz_k_25 hS => ?_)
    obtain ⟨B_k_25, A_k_25⟩ := u_k_25
    obtain ⟨rfl, hE_k_25, hY_k_25⟩ := hw_k_25
    have hE_k_25 : JE B_k_25 A_k_25 := hE_k_25
    have hY_k_25 : JX (9 * k + 9) B_k_25 := hY_k_25
    have hJ_k_25 := lH_J hH
    have hn_k_25 : nP B_k_25 ≤ 6 := hE_k_25.1.1
    refine lv_if_eq (tgt := 95) hx hb dL_law_77 (by decide) (fun c_26 => absurd c_26 (by decide)) (fun _ => ?_)
    refine lv_aload_n hx hb dL_law_80 rfl (lv_at hl 1 rfl) ?_
    refine lv_aload_n hx hb dL_law_81 rfl (lv_at hl 2 rfl) ?_
    refine lv_aload_n hx hb dL_law_82 rfl (lv_at hl 3 rfl) ?_
    refine lv_aload hx hb dL_law_83 (lv_at hl 6 rfl) ?_
    refine z_calli (va_runS (As := [.ref x, .ref (r5 0), .ref (r5 1), .ref (r5 4)]) (rest := []) ⟨hx, hb, hml, hown, hts⟩ (zl_arePeople l hl9 D cy s.heap.size x r5 5 B_k_25 A_k_25 (by omega) hE_k_25 hY_k_25) (va_cwS 4 hts gL_law_L_arePeople rfl rfl rfl (by decide +kernel) ⟨Nat.le_of_ble_eq_true rfl, Nat.le_of_ble_eq_true rfl⟩) (z_preS hA hS hH) rfl rfl hl.1 rfl (lv_room (Nat.le_of_ble_eq_true rfl)) dL_law_85 ⟨(by show _ ≤ (600104 : Nat); omega), (by show _ ≤ (7301314 : Nat); omega)⟩) hS (fun r_k_27 u_k_27 H locs hw_k_27 hH hz_k_27 hS => ?_)
    obtain ⟨rfl, hu_k_27⟩ := hw_k_27
    rw [hu_k_27] at hH
    refine lv_if_eq (tgt := 95) hx hb dL_law_88 (by decide) (fun c_28 => absurd c_28 (by decide)) (fun _ => ?_)
    refine lv_iconst (v := 1) hx hb dL_law_91 (by decide) ?_
    refine lv_goto (tgt := 96) hx hb dL_law_92 (by decide) ?_
    refine lv_istore (lv' := [(7, .int 1), (0, .ref b), (1, .ref x), (2, .ref (r5 0)), (3, .ref (r5 1)), (4, .ref (r5 2)), (5, .ref (r5 3)), (6, .ref (r5 4)), (8, .int (nI k))]) hx hb dL_law_96 hl (by decide) rfl (fun ls hl => ?_)
    refine lv_iinc (v := ((nI k) + 1)) (lv' := [(8, .int ((nI k) + 1)), (7, .int 1), (0, .ref b), (1, .ref x), (2, .ref (r5 0)), (3, .ref (r5 1)), (4, .ref (r5 2)), (5, .ref (r5 3)), (6, .ref (r5 4))]) hx hb dL_law_98 hl (k := 8) rfl rfl (by decide) rfl (fun ls hl => ?_)
    rw [show (((nI k) + 1) : Int32) = (nI (k + 1)) from nI_add k 1] at hl
    refine lv_goto (tgt := 48) hx hb dL_law_101 (by decide) ?_
    have hl_29 : lv_has ls 9 [(0, .ref b), (1, .ref x), (2, .ref (r5 0)), (3, .ref (r5 1)), (4, .ref (r5 2)), (5, .ref (r5 3)), (6, .ref (r5 4)), (7, .int 1), (8, .int (nI (k + 1)))] := lv_sub hl [2, 3, 4, 5, 6, 7, 8, 1, 0] rfl
    have hl_29 : lv_has ls 9 [(0, .ref b), (1, .ref x), (2, .ref (r5 0)), (3, .ref (r5 1)), (4, .ref (r5 2)), (5, .ref (r5 3)), (6, .ref (r5 4)), (7, .int 1), (8, .int (nI (k + 1)))] := hl_29
    exact ihk _ _ _ _ _ _ (⟨B_k_25, A_k_25, rfl, hE_k_25, hY_k_25⟩) hH hS hl_29 (by omega) (by omega)
