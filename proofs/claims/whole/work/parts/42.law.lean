set_option maxHeartbeats 4000000 in
set_option maxRecDepth 100000 in
theorem law_admit {p : Program} {e : Env} {s : State} {m : MethodId} {below : List Frame} {meth : Method} {c : Code} {H : Heap} {locs : List Loc} {cells slots : Nat} {ls : Array Slot} (l : Launch) (hl9 : l.stackTraces = false) {D : va_G} {cy : Nat → ClassId} {b L : Nat} {xs : Nat → Int32} (hL : L ≤ 2560) (C0 : lw_At p s m meth c b L xs) (hA : zA D cy s.heap.size s) {w : zW} {x y o9 : Nat} {r : Nat → Nat} {B : mB} (hI : LI w x y o9 r B) (hH : zH D cy s.heap.size w H) (hS : va_S (fun q : Nat => s.heap.size ≤ q) s.heap H locs) {k : Nat} (hk : k + 5 ≤ L) (hl : lv_has ls 7 [(0, .ref b), (1, .ref x), (2, .ref y), (3, .ref o9), (4, .int (nI k))]) (hc : cells + 8 ≤ 601024) (hs : slots + 100 ≤ 7293034) (kk : ∀ (w1 : zW) (B1 : mB) (H1 : Heap) (locs1 : List Loc) (ls1 : Array Slot), LI w1 x y o9 r B1 → zH D cy s.heap.size w1 H1 → va_S (fun q : Nat => s.heap.size ≤ q) s.heap H1 locs1 → lv_has ls1 7 [(0, .ref b), (1, .ref x), (2, .ref y), (3, .ref o9), (4, .int (nI k))] → W p l e room_1 s m #[Value.ref b] below meth c H1 locs1 (cells + 8) (slots + 100) (lw_Z below #[Value.ref b] s) (F0 m 1431 ls1 [])) : W p l e room_1 s m #[Value.ref b] below meth c H locs cells slots (lw_Z below #[Value.ref b] s) (F0 m 132 ls []) := by
  obtain ⟨hx, hb, hr, hml, hown, hts0, hX, hbl, hlocks, hgv⟩ := id C0
  have hb : c.code = cL_law := hb
  have hown : s.vm.findClass RL = some m.cls := hown
  have hts : ∀ w ∈ wsL_law, w.before #[Value.ref b] s = true := fun w h => hts0 w (wsL_law_in w h)
  have hbA : ¬ (fun q : Nat => s.heap.size ≤ q) b := Nat.not_le.mpr hbl
  obtain ⟨hRep, hM0, hJ, k_o, n_o⟩ := hI
  refine lv_aload_n hx hb dL_law_132 rfl (lv_at hl 1 rfl) ?_
  refine lv_aload_n hx hb dL_law_133 rfl (lv_at hl 0 rfl) ?_
  refine lv_iload hx hb dL_law_134 (lv_at hl 4 rfl) ?_
  refine lv_iconst (v := 1) hx hb dL_law_136 (by decide) ?_
  refine lv_iadd hx hb dL_law_137 ?_
  refine va_sld hx hb hX hbl hbA hS (law_in (j := 1) hk hL (by decide)) dL_law_138 ?_
  refine lv_aload_n hx hb dL_law_139 rfl (lv_at hl 0 rfl) ?_
  refine lv_iload hx hb dL_law_140 (lv_at hl 4 rfl) ?_
  refine lv_iconst (v := 2) hx hb dL_law_142 (by decide) ?_
  refine lv_iadd hx hb dL_law_143 ?_
  refine va_sld hx hb hX hbl hbA hS (law_in (j := 2) hk hL (by decide)) dL_law_144 ?_
  refine lv_aload_n hx hb dL_law_145 rfl (lv_at hl 3 rfl) ?_
  refine z_xcalli (vx_runSX (As := [.ref x, .int (xs ((nI k) + 1).toNatClampNeg), .int (xs ((nI k) + 2).toNatClampNeg), .ref o9]) (rest := []) ⟨hx, hb, hml, hown, hts⟩ (zL_admit l hl9 D cy s.heap.size w x o9 (z2 B 27 0 0) (xs ((nI k) + 1).toNatClampNeg) (xs ((nI k) + 2).toNatClampNeg) k_o n_o (Rep_27 hRep 0) (mJ_27 hJ 0)) (vx_cwSW 4 hts gL_law_L_admit rfl rfl rfl (by decide +kernel) ⟨Nat.le_of_ble_eq_true rfl, Nat.le_of_ble_eq_true rfl⟩) (z_preS hA hS hH) rfl rfl hl.1 rfl (lv_room (Nat.le_of_ble_eq_true rfl)) dL_law_146 ⟨hc, hs⟩) hS (fun E9 ce9 q9 u9 H locs hw9 hH hz9 hS hce9 hv9 hcl9 => hw9.elim) (fun r9 u9 H locs hw9 hH hz9 hS => ?_)
  rcases hw9 with ⟨hcd, rfl, hRep1, hG, hJv⟩ | ⟨hcd, rfl, hu9⟩
  · rw [c27_admit] at hcd
    have hGo := hG o9 (Or.inr (Or.inr (Or.inr k_o)))
    have hM : mH D cy s.heap.size u9 y r B H := ⟨u9, hH, mRep_g hM0 hG, mFr_rf u9⟩
    refine lv_istore (lv' := [(5, .int 0), (0, .ref b), (1, .ref x), (2, .ref y), (3, .ref o9), (4, .int (nI k))]) hx hb dL_law_149 hl (by decide) rfl (fun ls hl => ?_)
    refine lv_aload_n hx hb dL_law_151 rfl (lv_at hl 3 rfl) ?_
    refine lv_aload_n hx hb dL_law_152 rfl (lv_at hl 1 rfl) ?_
    refine lv_iload hx hb dL_law_153 (lv_at hl 5 rfl) ?_
    refine lv_iconst (v := 1) hx hb dL_law_155 (by decide) ?_
    refine lv_iadd hx hb dL_law_156 ?_
    refine va_sld hx hb hX hbl hbA hS (law_in (j := 1) hk hL (by decide)) dL_law_157 ?_
    refine lv_aload_n hx hb dL_law_158 rfl (lv_at hl 1 rfl) ?_
    refine lv_iload hx hb dL_law_159 (lv_at hl 5 rfl) ?_
    refine lv_iconst (v := 2) hx hb dL_law_161 (by decide) ?_
    refine lv_iadd hx hb dL_law_162 ?_
    refine va_sld hx hb hX hbl hbA hS (law_in (j := 2) hk hL (by decide)) dL_law_163 ?_
    refine z_calli (va_runV (As := [.int (xs ((nI k) + 1).toNatClampNeg), .int (xs ((nI k) + 2).toNatClampNeg)]) (rest := []) ⟨hx, hb, hml, hown, hts⟩ (c6_admit l D cy s.heap.size u9 y r B (xs ((nI k) + 1).toNatClampNeg) (xs ((nI k) + 2).toNatClampNeg) hJ.1) (cwV 2 hts gL_law_X6_admit rfl rfl rfl (by decide +kernel) ⟨Nat.le_of_ble_eq_true rfl, Nat.le_of_ble_eq_true rfl⟩) (z_preV hA hS hM (m_recv hA hM)) rfl rfl hl.1 rfl (lv_room (Nat.le_of_ble_eq_true rfl)) dL_law_164 ⟨hc, hs⟩) hS (fun r8 B8 H locs hw8 hM hz8 hS => ?_)
    rcases hw8 with ⟨-, rfl, hB8⟩ | ⟨hn8, -⟩
    rotate_left
    · exact absurd hcd hn8
    rw [hB8] at hM
    refine lv_istore (lv' := [(6, .int (an_admit (z2 B 27 0 0))), (5, .int 0), (0, .ref b), (1, .ref x), (2, .ref y), (3, .ref o9), (4, .int (nI k))]) hx hb dL_law_167 hl (by decide) rfl (fun ls hl => ?_)
    refine lv_aload_n hx hb dL_law_169 rfl (lv_at hl 4 rfl) ?_
    refine z_calli (va_runV (As := []) (rest := []) ⟨hx, hb, hml, hown, hts⟩ (c6_thrown l D cy s.heap.size u9 y r (up_admit (z2 B 27 0 0) (xs ((nI k) + 1).toNatClampNeg) (xs ((nI k) + 2).toNatClampNeg))) (cwV 0 hts gL_law_X6_thrown rfl rfl rfl (by decide +kernel) ⟨Nat.le_of_ble_eq_true rfl, Nat.le_of_ble_eq_true rfl⟩) (z_preV hA hS hM (m_recv hA hM)) rfl rfl hl.1 rfl (lv_room (Nat.le_of_ble_eq_true rfl)) dL_law_170 ⟨hc, hs⟩) hS (fun r7 B7 H locs hw7 hM hz7 hS => ?_)
    obtain ⟨rfl, hB7⟩ := hw7
    rw [hB7] at hM
    obtain ⟨w2, hH, hM2, hF2⟩ := hM
    rw [t27_admit]
    have ko2 : zK w2 o9 = 14 := (hF2.1 o9).trans (hGo.1.trans k_o)
    have no2 : zN w2 o9 = 1 := (hF2.2.2.1 o9).trans (hGo.2.1.trans n_o)
    refine lv_iload hx hb dL_law_173 (lv_at hl 1 rfl) ?_
    refine lv_icmp_eq (tgt := 180) hx hb dL_law_175 (by decide) (fun _ => ?_) (fun c_1 => absurd c_1 (by decide))
    refine lv_iload hx hb dL_law_180 (lv_at hl 1 rfl) ?_
    refine lv_if_ne (tgt := 197) hx hb dL_law_182 (by decide) (fun c_2 => absurd c_2 (by decide)) (fun _ => ?_)
    refine lv_aload_n hx hb dL_law_185 rfl (lv_at hl 5 rfl) ?_
    refine lv_iconst (v := 0) hx hb dL_law_186 (by decide) ?_
    refine z_jald hx hb hA hH (zk0 ko2 (by decide)) (zEn (zE_k14 ko2) no2) 0 rfl (by decide) (by decide) dL_law_187 ?_
    rw [show zJ w2 o9 0 = ((an_admit (z2 B 27 0 0))).toInt64 from (congrFun (hF2.2.2.2.2.1 o9) 0).trans hJv]
    refine lv_iload hx hb dL_law_188 (lv_at hl 0 rfl) ?_
    refine lv_i2l (v := ((an_admit (z2 B 27 0 0))).toInt64) hx hb dL_law_190 rfl ?_
    refine W.lcmp hx hb dL_law_191 ?_
    rw [lg_self]
    refine lv_if_eq (tgt := 197) hx hb dL_law_192 (by decide) (fun _ => ?_) (fun c_3 => absurd c_3 (by decide))
    refine lv_goto (tgt := 1431) hx hb dL_law_197 (by decide) ?_
    have hl_4 : lv_has ls 7 [(0, .ref b), (1, .ref x), (2, .ref y), (3, .ref o9), (4, .int (nI k))] := lv_sub hl [2, 3, 4, 5, 6] rfl
    exact kk w2 _ _ _ _ ⟨Rep_mFr hRep1 hF2, hM2, (JU_admit (mJ_27 hJ 0) (by rw [c27_admit]; exact hcd)), ko2, no2⟩ hH hS hl_4
  · rw [c27_admit] at hcd ⊢
    rw [hu9] at hH
    have hM : mH D cy s.heap.size w y r B H := ⟨w, hH, hM0, mFr_rf w⟩
    refine lv_istore (lv' := [(5, .int (cd_admit B (xs ((nI k) + 1).toNatClampNeg) (xs ((nI k) + 2).toNatClampNeg))), (0, .ref b), (1, .ref x), (2, .ref y), (3, .ref o9), (4, .int (nI k))]) hx hb dL_law_149 hl (by decide) rfl (fun ls hl => ?_)
    refine lv_aload_n hx hb dL_law_151 rfl (lv_at hl 3 rfl) ?_
    refine lv_aload_n hx hb dL_law_152 rfl (lv_at hl 1 rfl) ?_
    refine lv_iload hx hb dL_law_153 (lv_at hl 5 rfl) ?_
    refine lv_iconst (v := 1) hx hb dL_law_155 (by decide) ?_
    refine lv_iadd hx hb dL_law_156 ?_
    refine va_sld hx hb hX hbl hbA hS (law_in (j := 1) hk hL (by decide)) dL_law_157 ?_
    refine lv_aload_n hx hb dL_law_158 rfl (lv_at hl 1 rfl) ?_
    refine lv_iload hx hb dL_law_159 (lv_at hl 5 rfl) ?_
    refine lv_iconst (v := 2) hx hb dL_law_161 (by decide) ?_
    refine lv_iadd hx hb dL_law_162 ?_
    refine va_sld hx hb hX hbl hbA hS (law_in (j := 2) hk hL (by decide)) dL_law_163 ?_
    refine z_calli (va_runV (As := [.int (xs ((nI k) + 1).toNatClampNeg), .int (xs ((nI k) + 2).toNatClampNeg)]) (rest := []) ⟨hx, hb, hml, hown, hts⟩ (c6_admit l D cy s.heap.size w y r B (xs ((nI k) + 1).toNatClampNeg) (xs ((nI k) + 2).toNatClampNeg) hJ.1) (cwV 2 hts gL_law_X6_admit rfl rfl rfl (by decide +kernel) ⟨Nat.le_of_ble_eq_true rfl, Nat.le_of_ble_eq_true rfl⟩) (z_preV hA hS hM (m_recv hA hM)) rfl rfl hl.1 rfl (lv_room (Nat.le_of_ble_eq_true rfl)) dL_law_164 ⟨hc, hs⟩) hS (fun r8 B8 H locs hw8 hM hz8 hS => ?_)
    rcases hw8 with ⟨hn8, -, -⟩ | ⟨-, hB8⟩
    · exact absurd hn8 hcd
    rw [hB8] at hM
    refine lv_istore (lv' := [(6, .int r8), (5, .int (cd_admit B (xs ((nI k) + 1).toNatClampNeg) (xs ((nI k) + 2).toNatClampNeg))), (0, .ref b), (1, .ref x), (2, .ref y), (3, .ref o9), (4, .int (nI k))]) hx hb dL_law_167 hl (by decide) rfl (fun ls hl => ?_)
    refine lv_aload_n hx hb dL_law_169 rfl (lv_at hl 4 rfl) ?_
    refine z_calli (va_runV (As := []) (rest := []) ⟨hx, hb, hml, hown, hts⟩ (c6_thrown l D cy s.heap.size w y r (z2 B 27 0 (cd_admit B (xs ((nI k) + 1).toNatClampNeg) (xs ((nI k) + 2).toNatClampNeg)))) (cwV 0 hts gL_law_X6_thrown rfl rfl rfl (by decide +kernel) ⟨Nat.le_of_ble_eq_true rfl, Nat.le_of_ble_eq_true rfl⟩) (z_preV hA hS hM (m_recv hA hM)) rfl rfl hl.1 rfl (lv_room (Nat.le_of_ble_eq_true rfl)) dL_law_170 ⟨hc, hs⟩) hS (fun r7 B7 H locs hw7 hM hz7 hS => ?_)
    obtain ⟨rfl, hB7⟩ := hw7
    rw [hB7] at hM
    obtain ⟨w2, hH, hM2, hF2⟩ := hM
    rw [t27_v]
    have ko2 : zK w2 o9 = 14 := (hF2.1 o9).trans k_o
    have no2 : zN w2 o9 = 1 := (hF2.2.2.1 o9).trans n_o
    refine lv_iload hx hb dL_law_173 (lv_at hl 1 rfl) ?_
    refine lv_icmp_eq (tgt := 180) hx hb dL_law_175 (by decide) (fun c_5 => ?_) (fun c_5 => absurd (rfl) c_5)
    refine lv_iload hx hb dL_law_180 (lv_at hl 1 rfl) ?_
    refine lv_if_ne (tgt := 197) hx hb dL_law_182 (by decide) (fun _ => ?_) (fun h9 => absurd h9 hcd)
    refine lv_goto (tgt := 1431) hx hb dL_law_197 (by decide) ?_
    have hl_6 : lv_has ls 7 [(0, .ref b), (1, .ref x), (2, .ref y), (3, .ref o9), (4, .int (nI k))] := lv_sub hl [2, 3, 4, 5, 6] rfl
    exact kk w2 _ _ _ _ ⟨Rep_mFr (Rep_27 hRep _) hF2, hM2, mJ_27 hJ _, ko2, no2⟩ hH hS hl_6
set_option maxHeartbeats 4000000 in
set_option maxRecDepth 100000 in
theorem law_course {p : Program} {e : Env} {s : State} {m : MethodId} {below : List Frame} {meth : Method} {c : Code} {H : Heap} {locs : List Loc} {cells slots : Nat} {ls : Array Slot} (l : Launch) (hl9 : l.stackTraces = false) {D : va_G} {cy : Nat → ClassId} {b L : Nat} {xs : Nat → Int32} (hL : L ≤ 2560) (C0 : lw_At p s m meth c b L xs) (hA : zA D cy s.heap.size s) {w : zW} {x y o9 : Nat} {r : Nat → Nat} {B : mB} (hI : LI w x y o9 r B) (hH : zH D cy s.heap.size w H) (hS : va_S (fun q : Nat => s.heap.size ≤ q) s.heap H locs) {k : Nat} (hk : k + 5 ≤ L) (hl : lv_has ls 7 [(0, .ref b), (1, .ref x), (2, .ref y), (3, .ref o9), (4, .int (nI k))]) (hc : cells + 8 ≤ 601024) (hs : slots + 100 ≤ 7293034) (kk : ∀ (w1 : zW) (B1 : mB) (H1 : Heap) (locs1 : List Loc) (ls1 : Array Slot), LI w1 x y o9 r B1 → zH D cy s.heap.size w1 H1 → va_S (fun q : Nat => s.heap.size ≤ q) s.heap H1 locs1 → lv_has ls1 7 [(0, .ref b), (1, .ref x), (2, .ref y), (3, .ref o9), (4, .int (nI k))] → W p l e room_1 s m #[Value.ref b] below meth c H1 locs1 (cells + 8) (slots + 100) (lw_Z below #[Value.ref b] s) (F0 m 1431 ls1 [])) : W p l e room_1 s m #[Value.ref b] below meth c H locs cells slots (lw_Z below #[Value.ref b] s) (F0 m 200 ls []) := by
  obtain ⟨hx, hb, hr, hml, hown, hts0, hX, hbl, hlocks, hgv⟩ := id C0
  have hb : c.code = cL_law := hb
  have hown : s.vm.findClass RL = some m.cls := hown
  have hts : ∀ w ∈ wsL_law, w.before #[Value.ref b] s = true := fun w h => hts0 w (wsL_law_in w h)
  have hbA : ¬ (fun q : Nat => s.heap.size ≤ q) b := Nat.not_le.mpr hbl
  obtain ⟨hRep, hM0, hJ, k_o, n_o⟩ := hI
  refine lv_aload_n hx hb dL_law_200 rfl (lv_at hl 1 rfl) ?_
  refine lv_aload_n hx hb dL_law_201 rfl (lv_at hl 0 rfl) ?_
  refine lv_iload hx hb dL_law_202 (lv_at hl 4 rfl) ?_
  refine lv_iconst (v := 1) hx hb dL_law_204 (by decide) ?_
  refine lv_iadd hx hb dL_law_205 ?_
  refine va_sld hx hb hX hbl hbA hS (law_in (j := 1) hk hL (by decide)) dL_law_206 ?_
  refine lv_aload_n hx hb dL_law_207 rfl (lv_at hl 0 rfl) ?_
  refine lv_iload hx hb dL_law_208 (lv_at hl 4 rfl) ?_
  refine lv_iconst (v := 2) hx hb dL_law_210 (by decide) ?_
  refine lv_iadd hx hb dL_law_211 ?_
  refine va_sld hx hb hX hbl hbA hS (law_in (j := 2) hk hL (by decide)) dL_law_212 ?_
  refine lv_aload_n hx hb dL_law_213 rfl (lv_at hl 0 rfl) ?_
  refine lv_iload hx hb dL_law_214 (lv_at hl 4 rfl) ?_
  refine lv_iconst (v := 3) hx hb dL_law_216 (by decide) ?_
  refine lv_iadd hx hb dL_law_217 ?_
  refine va_sld hx hb hX hbl hbA hS (law_in (j := 3) hk hL (by decide)) dL_law_218 ?_
  refine lv_aload_n hx hb dL_law_219 rfl (lv_at hl 3 rfl) ?_
  refine z_xcalli (vx_runSX (As := [.ref x, .int (xs ((nI k) + 1).toNatClampNeg), .int (xs ((nI k) + 2).toNatClampNeg), .int (xs ((nI k) + 3).toNatClampNeg), .ref o9]) (rest := []) ⟨hx, hb, hml, hown, hts⟩ (zL_course l hl9 D cy s.heap.size w x o9 (z2 B 27 0 0) (xs ((nI k) + 1).toNatClampNeg) (xs ((nI k) + 2).toNatClampNeg) (xs ((nI k) + 3).toNatClampNeg) k_o n_o (Rep_27 hRep 0) (mJ_27 hJ 0)) (vx_cwSW 5 hts gL_law_L_course rfl rfl rfl (by decide +kernel) ⟨Nat.le_of_ble_eq_true rfl, Nat.le_of_ble_eq_true rfl⟩) (z_preS hA hS hH) rfl rfl hl.1 rfl (lv_room (Nat.le_of_ble_eq_true rfl)) dL_law_220 ⟨hc, hs⟩) hS (fun E9 ce9 q9 u9 H locs hw9 hH hz9 hS hce9 hv9 hcl9 => hw9.elim) (fun r9 u9 H locs hw9 hH hz9 hS => ?_)
  rcases hw9 with ⟨hcd, rfl, hRep1, hG, hJv⟩ | ⟨hcd, rfl, hu9⟩
  · rw [c27_course] at hcd
    have hGo := hG o9 (Or.inr (Or.inr (Or.inr k_o)))
    have hM : mH D cy s.heap.size u9 y r B H := ⟨u9, hH, mRep_g hM0 hG, mFr_rf u9⟩
    refine lv_istore (lv' := [(5, .int 0), (0, .ref b), (1, .ref x), (2, .ref y), (3, .ref o9), (4, .int (nI k))]) hx hb dL_law_223 hl (by decide) rfl (fun ls hl => ?_)
    refine lv_aload_n hx hb dL_law_225 rfl (lv_at hl 3 rfl) ?_
    refine lv_aload_n hx hb dL_law_226 rfl (lv_at hl 1 rfl) ?_
    refine lv_iload hx hb dL_law_227 (lv_at hl 5 rfl) ?_
    refine lv_iconst (v := 1) hx hb dL_law_229 (by decide) ?_
    refine lv_iadd hx hb dL_law_230 ?_
    refine va_sld hx hb hX hbl hbA hS (law_in (j := 1) hk hL (by decide)) dL_law_231 ?_
    refine lv_aload_n hx hb dL_law_232 rfl (lv_at hl 1 rfl) ?_
    refine lv_iload hx hb dL_law_233 (lv_at hl 5 rfl) ?_
    refine lv_iconst (v := 2) hx hb dL_law_235 (by decide) ?_
    refine lv_iadd hx hb dL_law_236 ?_
    refine va_sld hx hb hX hbl hbA hS (law_in (j := 2) hk hL (by decide)) dL_law_237 ?_
    refine lv_aload_n hx hb dL_law_238 rfl (lv_at hl 1 rfl) ?_
    refine lv_iload hx hb dL_law_239 (lv_at hl 5 rfl) ?_
    refine lv_iconst (v := 3) hx hb dL_law_241 (by decide) ?_
    refine lv_iadd hx hb dL_law_242 ?_
    refine va_sld hx hb hX hbl hbA hS (law_in (j := 3) hk hL (by decide)) dL_law_243 ?_
    refine z_calli (va_runV (As := [.int (xs ((nI k) + 1).toNatClampNeg), .int (xs ((nI k) + 2).toNatClampNeg), .int (xs ((nI k) + 3).toNatClampNeg)]) (rest := []) ⟨hx, hb, hml, hown, hts⟩ (c6_course l D cy s.heap.size u9 y r B (xs ((nI k) + 1).toNatClampNeg) (xs ((nI k) + 2).toNatClampNeg) (xs ((nI k) + 3).toNatClampNeg) hJ.1) (cwV 3 hts gL_law_X6_course rfl rfl rfl (by decide +kernel) ⟨Nat.le_of_ble_eq_true rfl, Nat.le_of_ble_eq_true rfl⟩) (z_preV hA hS hM (m_recv hA hM)) rfl rfl hl.1 rfl (lv_room (Nat.le_of_ble_eq_true rfl)) dL_law_244 ⟨hc, hs⟩) hS (fun r8 B8 H locs hw8 hM hz8 hS => ?_)
    rcases hw8 with ⟨-, rfl, hB8⟩ | ⟨hn8, -⟩
    rotate_left
    · exact absurd hcd hn8
    rw [hB8] at hM
    refine lv_istore (lv' := [(6, .int (an_course (z2 B 27 0 0) (xs ((nI k) + 1).toNatClampNeg) (xs ((nI k) + 2).toNatClampNeg) (xs ((nI k) + 3).toNatClampNeg))), (5, .int 0), (0, .ref b), (1, .ref x), (2, .ref y), (3, .ref o9), (4, .int (nI k))]) hx hb dL_law_247 hl (by decide) rfl (fun ls hl => ?_)
    refine lv_aload_n hx hb dL_law_249 rfl (lv_at hl 4 rfl) ?_
    refine z_calli (va_runV (As := []) (rest := []) ⟨hx, hb, hml, hown, hts⟩ (c6_thrown l D cy s.heap.size u9 y r (up_course (z2 B 27 0 0) (xs ((nI k) + 1).toNatClampNeg) (xs ((nI k) + 2).toNatClampNeg) (xs ((nI k) + 3).toNatClampNeg))) (cwV 0 hts gL_law_X6_thrown rfl rfl rfl (by decide +kernel) ⟨Nat.le_of_ble_eq_true rfl, Nat.le_of_ble_eq_true rfl⟩) (z_preV hA hS hM (m_recv hA hM)) rfl rfl hl.1 rfl (lv_room (Nat.le_of_ble_eq_true rfl)) dL_law_250 ⟨hc, hs⟩) hS (fun r7 B7 H locs hw7 hM hz7 hS => ?_)
    obtain ⟨rfl, hB7⟩ := hw7
    rw [hB7] at hM
    obtain ⟨w2, hH, hM2, hF2⟩ := hM
    rw [t27_course]
    have ko2 : zK w2 o9 = 14 := (hF2.1 o9).trans (hGo.1.trans k_o)
    have no2 : zN w2 o9 = 1 := (hF2.2.2.1 o9).trans (hGo.2.1.trans n_o)
    refine lv_iload hx hb dL_law_253 (lv_at hl 1 rfl) ?_
    refine lv_icmp_eq (tgt := 260) hx hb dL_law_255 (by decide) (fun _ => ?_) (fun c_1 => absurd c_1 (by decide))
    refine lv_iload hx hb dL_law_260 (lv_at hl 1 rfl) ?_
    refine lv_if_ne (tgt := 277) hx hb dL_law_262 (by decide) (fun c_2 => absurd c_2 (by decide)) (fun _ => ?_)
    refine lv_aload_n hx hb dL_law_265 rfl (lv_at hl 5 rfl) ?_
    refine lv_iconst (v := 0) hx hb dL_law_266 (by decide) ?_
    refine z_jald hx hb hA hH (zk0 ko2 (by decide)) (zEn (zE_k14 ko2) no2) 0 rfl (by decide) (by decide) dL_law_267 ?_
    rw [show zJ w2 o9 0 = ((an_course (z2 B 27 0 0) (xs ((nI k) + 1).toNatClampNeg) (xs ((nI k) + 2).toNatClampNeg) (xs ((nI k) + 3).toNatClampNeg))).toInt64 from (congrFun (hF2.2.2.2.2.1 o9) 0).trans hJv]
    refine lv_iload hx hb dL_law_268 (lv_at hl 0 rfl) ?_
    refine lv_i2l (v := ((an_course (z2 B 27 0 0) (xs ((nI k) + 1).toNatClampNeg) (xs ((nI k) + 2).toNatClampNeg) (xs ((nI k) + 3).toNatClampNeg))).toInt64) hx hb dL_law_270 rfl ?_
    refine W.lcmp hx hb dL_law_271 ?_
    rw [lg_self]
    refine lv_if_eq (tgt := 277) hx hb dL_law_272 (by decide) (fun _ => ?_) (fun c_3 => absurd c_3 (by decide))
    refine lv_goto (tgt := 1431) hx hb dL_law_277 (by decide) ?_
    have hl_4 : lv_has ls 7 [(0, .ref b), (1, .ref x), (2, .ref y), (3, .ref o9), (4, .int (nI k))] := lv_sub hl [2, 3, 4, 5, 6] rfl
    exact kk w2 _ _ _ _ ⟨Rep_mFr hRep1 hF2, hM2, (JU_course (mJ_27 hJ 0) (by rw [c27_course]; exact hcd)), ko2, no2⟩ hH hS hl_4
  · rw [c27_course] at hcd ⊢
    rw [hu9] at hH
    have hM : mH D cy s.heap.size w y r B H := ⟨w, hH, hM0, mFr_rf w⟩
    refine lv_istore (lv' := [(5, .int (cd_course B (xs ((nI k) + 1).toNatClampNeg) (xs ((nI k) + 2).toNatClampNeg) (xs ((nI k) + 3).toNatClampNeg))), (0, .ref b), (1, .ref x), (2, .ref y), (3, .ref o9), (4, .int (nI k))]) hx hb dL_law_223 hl (by decide) rfl (fun ls hl => ?_)
    refine lv_aload_n hx hb dL_law_225 rfl (lv_at hl 3 rfl) ?_
    refine lv_aload_n hx hb dL_law_226 rfl (lv_at hl 1 rfl) ?_
    refine lv_iload hx hb dL_law_227 (lv_at hl 5 rfl) ?_
    refine lv_iconst (v := 1) hx hb dL_law_229 (by decide) ?_
    refine lv_iadd hx hb dL_law_230 ?_
    refine va_sld hx hb hX hbl hbA hS (law_in (j := 1) hk hL (by decide)) dL_law_231 ?_
    refine lv_aload_n hx hb dL_law_232 rfl (lv_at hl 1 rfl) ?_
    refine lv_iload hx hb dL_law_233 (lv_at hl 5 rfl) ?_
    refine lv_iconst (v := 2) hx hb dL_law_235 (by decide) ?_
    refine lv_iadd hx hb dL_law_236 ?_
    refine va_sld hx hb hX hbl hbA hS (law_in (j := 2) hk hL (by decide)) dL_law_237 ?_
    refine lv_aload_n hx hb dL_law_238 rfl (lv_at hl 1 rfl) ?_
    refine lv_iload hx hb dL_law_239 (lv_at hl 5 rfl) ?_
    refine lv_iconst (v := 3) hx hb dL_law_241 (by decide) ?_
    refine lv_iadd hx hb dL_law_242 ?_
    refine va_sld hx hb hX hbl hbA hS (law_in (j := 3) hk hL (by decide)) dL_law_243 ?_
    refine z_calli (va_runV (As := [.int (xs ((nI k) + 1).toNatClampNeg), .int (xs ((nI k) + 2).toNatClampNeg), .int (xs ((nI k) + 3).toNatClampNeg)]) (rest := []) ⟨hx, hb, hml, hown, hts⟩ (c6_course l D cy s.heap.size w y r B (xs ((nI k) + 1).toNatClampNeg) (xs ((nI k) + 2).toNatClampNeg) (xs ((nI k) + 3).toNatClampNeg) hJ.1) (cwV 3 hts gL_law_X6_course rfl rfl rfl (by decide +kernel) ⟨Nat.le_of_ble_eq_true rfl, Nat.le_of_ble_eq_true rfl⟩) (z_preV hA hS hM (m_recv hA hM)) rfl rfl hl.1 rfl (lv_room (Nat.le_of_ble_eq_true rfl)) dL_law_244 ⟨hc, hs⟩) hS (fun r8 B8 H locs hw8 hM hz8 hS => ?_)
    rcases hw8 with ⟨hn8, -, -⟩ | ⟨-, hB8⟩
    · exact absurd hn8 hcd
    rw [hB8] at hM
    refine lv_istore (lv' := [(6, .int r8), (5, .int (cd_course B (xs ((nI k) + 1).toNatClampNeg) (xs ((nI k) + 2).toNatClampNeg) (xs ((nI k) + 3).toNatClampNeg))), (0, .ref b), (1, .ref x), (2, .ref y), (3, .ref o9), (4, .int (nI k))]) hx hb dL_law_247 hl (by decide) rfl (fun ls hl => ?_)
    refine lv_aload_n hx hb dL_law_249 rfl (lv_at hl 4 rfl) ?_
    refine z_calli (va_runV (As := []) (rest := []) ⟨hx, hb, hml, hown, hts⟩ (c6_thrown l D cy s.heap.size w y r (z2 B 27 0 (cd_course B (xs ((nI k) + 1).toNatClampNeg) (xs ((nI k) + 2).toNatClampNeg) (xs ((nI k) + 3).toNatClampNeg)))) (cwV 0 hts gL_law_X6_thrown rfl rfl rfl (by decide +kernel) ⟨Nat.le_of_ble_eq_true rfl, Nat.le_of_ble_eq_true rfl⟩) (z_preV hA hS hM (m_recv hA hM)) rfl rfl hl.1 rfl (lv_room (Nat.le_of_ble_eq_true rfl)) dL_law_250 ⟨hc, hs⟩) hS (fun r7 B7 H locs hw7 hM hz7 hS => ?_)
    obtain ⟨rfl, hB7⟩ := hw7
    rw [hB7] at hM
    obtain ⟨w2, hH, hM2, hF2⟩ := hM
    rw [t27_v]
    have ko2 : zK w2 o9 = 14 := (hF2.1 o9).trans k_o
    have no2 : zN w2 o9 = 1 := (hF2.2.2.1 o9).trans n_o
    refine lv_iload hx hb dL_law_253 (lv_at hl 1 rfl) ?_
    refine lv_icmp_eq (tgt := 260) hx hb dL_law_255 (by decide) (fun c_5 => ?_) (fun c_5 => absurd (rfl) c_5)
    refine lv_iload hx hb dL_law_260 (lv_at hl 1 rfl) ?_
    refine lv_if_ne (tgt := 277) hx hb dL_law_262 (by decide) (fun _ => ?_) (fun h9 => absurd h9 hcd)
    refine lv_goto (tgt := 1431) hx hb dL_law_277 (by decide) ?_
    have hl_6 : lv_has ls 7 [(0, .ref b), (1, .ref x), (2, .ref y), (3, .ref o9), (4, .int (nI k))] := lv_sub hl [2, 3, 4, 5, 6] rfl
    exact kk w2 _ _ _ _ ⟨Rep_mFr (Rep_27 hRep _) hF2, hM2, mJ_27 hJ _, ko2, no2⟩ hH hS hl_6
set_option maxHeartbeats 4000000 in
set_option maxRecDepth 100000 in
theorem law_offence {p : Program} {e : Env} {s : State} {m : MethodId} {below : List Frame} {meth : Method} {c : Code} {H : Heap} {locs : List Loc} {cells slots : Nat} {ls : Array Slot} (l : Launch) (hl9 : l.stackTraces = false) {D : va_G} {cy : Nat → ClassId} {b L : Nat} {xs : Nat → Int32} (hL : L ≤ 2560) (C0 : lw_At p s m meth c b L xs) (hA : zA D cy s.heap.size s) {w : zW} {x y o9 : Nat} {r : Nat → Nat} {B : mB} (hI : LI w x y o9 r B) (hH : zH D cy s.heap.size w H) (hS : va_S (fun q : Nat => s.heap.size ≤ q) s.heap H locs) {k : Nat} (hk : k + 5 ≤ L) (hl : lv_has ls 7 [(0, .ref b), (1, .ref x), (2, .ref y), (3, .ref o9), (4, .int (nI k))]) (hc : cells + 8 ≤ 601024) (hs : slots + 100 ≤ 7293034) (kk : ∀ (w1 : zW) (B1 : mB) (H1 : Heap) (locs1 : List Loc) (ls1 : Array Slot), LI w1 x y o9 r B1 → zH D cy s.heap.size w1 H1 → va_S (fun q : Nat => s.heap.size ≤ q) s.heap H1 locs1 → lv_has ls1 7 [(0, .ref b), (1, .ref x), (2, .ref y), (3, .ref o9), (4, .int (nI k))] → W p l e room_1 s m #[Value.ref b] below meth c H1 locs1 (cells + 8) (slots + 100) (lw_Z below #[Value.ref b] s) (F0 m 1431 ls1 [])) : W p l e room_1 s m #[Value.ref b] below meth c H locs cells slots (lw_Z below #[Value.ref b] s) (F0 m 280 ls []) := by
  obtain ⟨hx, hb, hr, hml, hown, hts0, hX, hbl, hlocks, hgv⟩ := id C0
  have hb : c.code = cL_law := hb
  have hown : s.vm.findClass RL = some m.cls := hown
  have hts : ∀ w ∈ wsL_law, w.before #[Value.ref b] s = true := fun w h => hts0 w (wsL_law_in w h)
  have hbA : ¬ (fun q : Nat => s.heap.size ≤ q) b := Nat.not_le.mpr hbl
  obtain ⟨hRep, hM0, hJ, k_o, n_o⟩ := hI
  refine lv_aload_n hx hb dL_law_280 rfl (lv_at hl 1 rfl) ?_
  refine lv_aload_n hx hb dL_law_281 rfl (lv_at hl 0 rfl) ?_
  refine lv_iload hx hb dL_law_282 (lv_at hl 4 rfl) ?_
  refine lv_iconst (v := 1) hx hb dL_law_284 (by decide) ?_
  refine lv_iadd hx hb dL_law_285 ?_
  refine va_sld hx hb hX hbl hbA hS (law_in (j := 1) hk hL (by decide)) dL_law_286 ?_
  refine lv_aload_n hx hb dL_law_287 rfl (lv_at hl 0 rfl) ?_
  refine lv_iload hx hb dL_law_288 (lv_at hl 4 rfl) ?_
  refine lv_iconst (v := 2) hx hb dL_law_290 (by decide) ?_
  refine lv_iadd hx hb dL_law_291 ?_
  refine va_sld hx hb hX hbl hbA hS (law_in (j := 2) hk hL (by decide)) dL_law_292 ?_
  refine lv_aload_n hx hb dL_law_293 rfl (lv_at hl 3 rfl) ?_
  refine z_xcalli (vx_runSX (As := [.ref x, .int (xs ((nI k) + 1).toNatClampNeg), .int (xs ((nI k) + 2).toNatClampNeg), .ref o9]) (rest := []) ⟨hx, hb, hml, hown, hts⟩ (zL_offence l hl9 D cy s.heap.size w x o9 (z2 B 27 0 0) (xs ((nI k) + 1).toNatClampNeg) (xs ((nI k) + 2).toNatClampNeg) k_o n_o (Rep_27 hRep 0) (mJ_27 hJ 0)) (vx_cwSW 4 hts gL_law_L_offence rfl rfl rfl (by decide +kernel) ⟨Nat.le_of_ble_eq_true rfl, Nat.le_of_ble_eq_true rfl⟩) (z_preS hA hS hH) rfl rfl hl.1 rfl (lv_room (Nat.le_of_ble_eq_true rfl)) dL_law_294 ⟨hc, hs⟩) hS (fun E9 ce9 q9 u9 H locs hw9 hH hz9 hS hce9 hv9 hcl9 => hw9.elim) (fun r9 u9 H locs hw9 hH hz9 hS => ?_)
  rcases hw9 with ⟨hcd, rfl, hRep1, hG, hJv⟩ | ⟨hcd, rfl, hu9⟩
  · rw [c27_offence] at hcd
    have hGo := hG o9 (Or.inr (Or.inr (Or.inr k_o)))
    have hM : mH D cy s.heap.size u9 y r B H := ⟨u9, hH, mRep_g hM0 hG, mFr_rf u9⟩
    refine lv_istore (lv' := [(5, .int 0), (0, .ref b), (1, .ref x), (2, .ref y), (3, .ref o9), (4, .int (nI k))]) hx hb dL_law_297 hl (by decide) rfl (fun ls hl => ?_)
    refine lv_aload_n hx hb dL_law_299 rfl (lv_at hl 3 rfl) ?_
    refine lv_aload_n hx hb dL_law_300 rfl (lv_at hl 1 rfl) ?_
    refine lv_iload hx hb dL_law_301 (lv_at hl 5 rfl) ?_
    refine lv_iconst (v := 1) hx hb dL_law_303 (by decide) ?_
    refine lv_iadd hx hb dL_law_304 ?_
    refine va_sld hx hb hX hbl hbA hS (law_in (j := 1) hk hL (by decide)) dL_law_305 ?_
    refine lv_aload_n hx hb dL_law_306 rfl (lv_at hl 1 rfl) ?_
    refine lv_iload hx hb dL_law_307 (lv_at hl 5 rfl) ?_
    refine lv_iconst (v := 2) hx hb dL_law_309 (by decide) ?_
    refine lv_iadd hx hb dL_law_310 ?_
    refine va_sld hx hb hX hbl hbA hS (law_in (j := 2) hk hL (by decide)) dL_law_311 ?_
    refine z_calli (va_runV (As := [.int (xs ((nI k) + 1).toNatClampNeg), .int (xs ((nI k) + 2).toNatClampNeg)]) (rest := []) ⟨hx, hb, hml, hown, hts⟩ (c6_offence l D cy s.heap.size u9 y r B (xs ((nI k) + 1).toNatClampNeg) (xs ((nI k) + 2).toNatClampNeg) hJ.1) (cwV 2 hts gL_law_X6_offence rfl rfl rfl (by decide +kernel) ⟨Nat.le_of_ble_eq_true rfl, Nat.le_of_ble_eq_true rfl⟩) (z_preV hA hS hM (m_recv hA hM)) rfl rfl hl.1 rfl (lv_room (Nat.le_of_ble_eq_true rfl)) dL_law_312 ⟨hc, hs⟩) hS (fun r8 B8 H locs hw8 hM hz8 hS => ?_)
    rcases hw8 with ⟨-, rfl, hB8⟩ | ⟨hn8, -⟩
    rotate_left
    · exact absurd hcd hn8
    rw [hB8] at hM
    refine lv_istore (lv' := [(6, .int (an_offence (z2 B 27 0 0) (xs ((nI k) + 1).toNatClampNeg))), (5, .int 0), (0, .ref b), (1, .ref x), (2, .ref y), (3, .ref o9), (4, .int (nI k))]) hx hb dL_law_315 hl (by decide) rfl (fun ls hl => ?_)
    refine lv_aload_n hx hb dL_law_317 rfl (lv_at hl 4 rfl) ?_
    refine z_calli (va_runV (As := []) (rest := []) ⟨hx, hb, hml, hown, hts⟩ (c6_thrown l D cy s.heap.size u9 y r (up_offence (z2 B 27 0 0) (xs ((nI k) + 1).toNatClampNeg) (xs ((nI k) + 2).toNatClampNeg))) (cwV 0 hts gL_law_X6_thrown rfl rfl rfl (by decide +kernel) ⟨Nat.le_of_ble_eq_true rfl, Nat.le_of_ble_eq_true rfl⟩) (z_preV hA hS hM (m_recv hA hM)) rfl rfl hl.1 rfl (lv_room (Nat.le_of_ble_eq_true rfl)) dL_law_318 ⟨hc, hs⟩) hS (fun r7 B7 H locs hw7 hM hz7 hS => ?_)
    obtain ⟨rfl, hB7⟩ := hw7
    rw [hB7] at hM
    obtain ⟨w2, hH, hM2, hF2⟩ := hM
    rw [t27_offence]
    have ko2 : zK w2 o9 = 14 := (hF2.1 o9).trans (hGo.1.trans k_o)
    have no2 : zN w2 o9 = 1 := (hF2.2.2.1 o9).trans (hGo.2.1.trans n_o)
    refine lv_iload hx hb dL_law_321 (lv_at hl 1 rfl) ?_
    refine lv_icmp_eq (tgt := 328) hx hb dL_law_323 (by decide) (fun _ => ?_) (fun c_1 => absurd c_1 (by decide))
    refine lv_iload hx hb dL_law_328 (lv_at hl 1 rfl) ?_
    refine lv_if_ne (tgt := 345) hx hb dL_law_330 (by decide) (fun c_2 => absurd c_2 (by decide)) (fun _ => ?_)
    refine lv_aload_n hx hb dL_law_333 rfl (lv_at hl 5 rfl) ?_
    refine lv_iconst (v := 0) hx hb dL_law_334 (by decide) ?_
    refine z_jald hx hb hA hH (zk0 ko2 (by decide)) (zEn (zE_k14 ko2) no2) 0 rfl (by decide) (by decide) dL_law_335 ?_
    rw [show zJ w2 o9 0 = ((an_offence (z2 B 27 0 0) (xs ((nI k) + 1).toNatClampNeg))).toInt64 from (congrFun (hF2.2.2.2.2.1 o9) 0).trans hJv]
    refine lv_iload hx hb dL_law_336 (lv_at hl 0 rfl) ?_
    refine lv_i2l (v := ((an_offence (z2 B 27 0 0) (xs ((nI k) + 1).toNatClampNeg))).toInt64) hx hb dL_law_338 rfl ?_
    refine W.lcmp hx hb dL_law_339 ?_
    rw [lg_self]
    refine lv_if_eq (tgt := 345) hx hb dL_law_340 (by decide) (fun _ => ?_) (fun c_3 => absurd c_3 (by decide))
    refine lv_goto (tgt := 1431) hx hb dL_law_345 (by decide) ?_
    have hl_4 : lv_has ls 7 [(0, .ref b), (1, .ref x), (2, .ref y), (3, .ref o9), (4, .int (nI k))] := lv_sub hl [2, 3, 4, 5, 6] rfl
    exact kk w2 _ _ _ _ ⟨Rep_mFr hRep1 hF2, hM2, (JU_offence (mJ_27 hJ 0) (by rw [c27_offence]; exact hcd)), ko2, no2⟩ hH hS hl_4
  · rw [c27_offence] at hcd ⊢
    rw [hu9] at hH
    have hM : mH D cy s.heap.size w y r B H := ⟨w, hH, hM0, mFr_rf w⟩
    refine lv_istore (lv' := [(5, .int (cd_offence B (xs ((nI k) + 1).toNatClampNeg) (xs ((nI k) + 2).toNatClampNeg))), (0, .ref b), (1, .ref x), (2, .ref y), (3, .ref o9), (4, .int (nI k))]) hx hb dL_law_297 hl (by decide) rfl (fun ls hl => ?_)
    refine lv_aload_n hx hb dL_law_299 rfl (lv_at hl 3 rfl) ?_
    refine lv_aload_n hx hb dL_law_300 rfl (lv_at hl 1 rfl) ?_
    refine lv_iload hx hb dL_law_301 (lv_at hl 5 rfl) ?_
    refine lv_iconst (v := 1) hx hb dL_law_303 (by decide) ?_
    refine lv_iadd hx hb dL_law_304 ?_
    refine va_sld hx hb hX hbl hbA hS (law_in (j := 1) hk hL (by decide)) dL_law_305 ?_
    refine lv_aload_n hx hb dL_law_306 rfl (lv_at hl 1 rfl) ?_
    refine lv_iload hx hb dL_law_307 (lv_at hl 5 rfl) ?_
    refine lv_iconst (v := 2) hx hb dL_law_309 (by decide) ?_
    refine lv_iadd hx hb dL_law_310 ?_
    refine va_sld hx hb hX hbl hbA hS (law_in (j := 2) hk hL (by decide)) dL_law_311 ?_
    refine z_calli (va_runV (As := [.int (xs ((nI k) + 1).toNatClampNeg), .int (xs ((nI k) + 2).toNatClampNeg)]) (rest := []) ⟨hx, hb, hml, hown, hts⟩ (c6_offence l D cy s.heap.size w y r B (xs ((nI k) + 1).toNatClampNeg) (xs ((nI k) + 2).toNatClampNeg) hJ.1) (cwV 2 hts gL_law_X6_offence rfl rfl rfl (by decide +kernel) ⟨Nat.le_of_ble_eq_true rfl, Nat.le_of_ble_eq_true rfl⟩) (z_preV hA hS hM (m_recv hA hM)) rfl rfl hl.1 rfl (lv_room (Nat.le_of_ble_eq_true rfl)) dL_law_312 ⟨hc, hs⟩) hS (fun r8 B8 H locs hw8 hM hz8 hS => ?_)
    rcases hw8 with ⟨hn8, -, -⟩ | ⟨-, hB8⟩
    · exact absurd hn8 hcd
    rw [hB8] at hM
    refine lv_istore (lv' := [(6, .int r8), (5, .int (cd_offence B (xs ((nI k) + 1).toNatClampNeg) (xs ((nI k) + 2).toNatClampNeg))), (0, .ref b), (1, .ref x), (2, .ref y), (3, .ref o9), (4, .int (nI k))]) hx hb dL_law_315 hl (by decide) rfl (fun ls hl => ?_)
    refine lv_aload_n hx hb dL_law_317 rfl (lv_at hl 4 rfl) ?_
    refine z_calli (va_runV (As := []) (rest := []) ⟨hx, hb, hml, hown, hts⟩ (c6_thrown l D cy s.heap.size w y r (z2 B 27 0 (cd_offence B (xs ((nI k) + 1).toNatClampNeg) (xs ((nI k) + 2).toNatClampNeg)))) (cwV 0 hts gL_law_X6_thrown rfl rfl rfl (by decide +kernel) ⟨Nat.le_of_ble_eq_true rfl, Nat.le_of_ble_eq_true rfl⟩) (z_preV hA hS hM (m_recv hA hM)) rfl rfl hl.1 rfl (lv_room (Nat.le_of_ble_eq_true rfl)) dL_law_318 ⟨hc, hs⟩) hS (fun r7 B7 H locs hw7 hM hz7 hS => ?_)
    obtain ⟨rfl, hB7⟩ := hw7
    rw [hB7] at hM
    obtain ⟨w2, hH, hM2, hF2⟩ := hM
    rw [t27_v]
    have ko2 : zK w2 o9 = 14 := (hF2.1 o9).trans k_o
    have no2 : zN w2 o9 = 1 := (hF2.2.2.1 o9).trans n_o
    refine lv_iload hx hb dL_law_321 (lv_at hl 1 rfl) ?_
    refine lv_icmp_eq (tgt := 328) hx hb dL_law_323 (by decide) (fun c_5 => ?_) (fun c_5 => absurd (rfl) c_5)
    refine lv_iload hx hb dL_law_328 (lv_at hl 1 rfl) ?_
    refine lv_if_ne (tgt := 345) hx hb dL_law_330 (by decide) (fun _ => ?_) (fun h9 => absurd h9 hcd)
    refine lv_goto (tgt := 1431) hx hb dL_law_345 (by decide) ?_
    have hl_6 : lv_has ls 7 [(0, .ref b), (1, .ref x), (2, .ref y), (3, .ref o9), (4, .int (nI k))] := lv_sub hl [2, 3, 4, 5, 6] rfl
    exact kk w2 _ _ _ _ ⟨Rep_mFr (Rep_27 hRep _) hF2, hM2, mJ_27 hJ _, ko2, no2⟩ hH hS hl_6
set_option maxHeartbeats 4000000 in
set_option maxRecDepth 100000 in
theorem law_appeal {p : Program} {e : Env} {s : State} {m : MethodId} {below : List Frame} {meth : Method} {c : Code} {H : Heap} {locs : List Loc} {cells slots : Nat} {ls : Array Slot} (l : Launch) (hl9 : l.stackTraces = false) {D : va_G} {cy : Nat → ClassId} {b L : Nat} {xs : Nat → Int32} (hL : L ≤ 2560) (C0 : lw_At p s m meth c b L xs) (hA : zA D cy s.heap.size s) {w : zW} {x y o9 : Nat} {r : Nat → Nat} {B : mB} (hI : LI w x y o9 r B) (hH : zH D cy s.heap.size w H) (hS : va_S (fun q : Nat => s.heap.size ≤ q) s.heap H locs) {k : Nat} (hk : k + 5 ≤ L) (hl : lv_has ls 7 [(0, .ref b), (1, .ref x), (2, .ref y), (3, .ref o9), (4, .int (nI k))]) (hc : cells + 8 ≤ 601024) (hs : slots + 100 ≤ 7293034) (kk : ∀ (w1 : zW) (B1 : mB) (H1 : Heap) (locs1 : List Loc) (ls1 : Array Slot), LI w1 x y o9 r B1 → zH D cy s.heap.size w1 H1 → va_S (fun q : Nat => s.heap.size ≤ q) s.heap H1 locs1 → lv_has ls1 7 [(0, .ref b), (1, .ref x), (2, .ref y), (3, .ref o9), (4, .int (nI k))] → W p l e room_1 s m #[Value.ref b] below meth c H1 locs1 (cells + 8) (slots + 100) (lw_Z below #[Value.ref b] s) (F0 m 1431 ls1 [])) : W p l e room_1 s m #[Value.ref b] below meth c H locs cells slots (lw_Z below #[Value.ref b] s) (F0 m 348 ls []) := by
  obtain ⟨hx, hb, hr, hml, hown, hts0, hX, hbl, hlocks, hgv⟩ := id C0
  have hb : c.code = cL_law := hb
  have hown : s.vm.findClass RL = some m.cls := hown
  have hts : ∀ w ∈ wsL_law, w.before #[Value.ref b] s = true := fun w h => hts0 w (wsL_law_in w h)
  have hbA : ¬ (fun q : Nat => s.heap.size ≤ q) b := Nat.not_le.mpr hbl
  obtain ⟨hRep, hM0, hJ, k_o, n_o⟩ := hI
  refine lv_aload_n hx hb dL_law_348 rfl (lv_at hl 1 rfl) ?_
  refine lv_aload_n hx hb dL_law_349 rfl (lv_at hl 0 rfl) ?_
  refine lv_iload hx hb dL_law_350 (lv_at hl 4 rfl) ?_
  refine lv_iconst (v := 1) hx hb dL_law_352 (by decide) ?_
  refine lv_iadd hx hb dL_law_353 ?_
  refine va_sld hx hb hX hbl hbA hS (law_in (j := 1) hk hL (by decide)) dL_law_354 ?_
  refine lv_aload_n hx hb dL_law_355 rfl (lv_at hl 0 rfl) ?_
  refine lv_iload hx hb dL_law_356 (lv_at hl 4 rfl) ?_
  refine lv_iconst (v := 2) hx hb dL_law_358 (by decide) ?_
  refine lv_iadd hx hb dL_law_359 ?_
  refine va_sld hx hb hX hbl hbA hS (law_in (j := 2) hk hL (by decide)) dL_law_360 ?_
  refine lv_aload_n hx hb dL_law_361 rfl (lv_at hl 3 rfl) ?_
  refine z_xcalli (vx_runSX (As := [.ref x, .int (xs ((nI k) + 1).toNatClampNeg), .int (xs ((nI k) + 2).toNatClampNeg), .ref o9]) (rest := []) ⟨hx, hb, hml, hown, hts⟩ (zL_appeal l hl9 D cy s.heap.size w x o9 (z2 B 27 0 0) (xs ((nI k) + 1).toNatClampNeg) (xs ((nI k) + 2).toNatClampNeg) k_o n_o (Rep_27 hRep 0) (mJ_27 hJ 0)) (vx_cwSW 4 hts gL_law_L_appeal rfl rfl rfl (by decide +kernel) ⟨Nat.le_of_ble_eq_true rfl, Nat.le_of_ble_eq_true rfl⟩) (z_preS hA hS hH) rfl rfl hl.1 rfl (lv_room (Nat.le_of_ble_eq_true rfl)) dL_law_362 ⟨hc, hs⟩) hS (fun E9 ce9 q9 u9 H locs hw9 hH hz9 hS hce9 hv9 hcl9 => hw9.elim) (fun r9 u9 H locs hw9 hH hz9 hS => ?_)
  rcases hw9 with ⟨hcd, rfl, hRep1, hG, hJv⟩ | ⟨hcd, rfl, hu9⟩
  · rw [c27_appeal] at hcd
    have hGo := hG o9 (Or.inr (Or.inr (Or.inr k_o)))
    have hM : mH D cy s.heap.size u9 y r B H := ⟨u9, hH, mRep_g hM0 hG, mFr_rf u9⟩
    refine lv_istore (lv' := [(5, .int 0), (0, .ref b), (1, .ref x), (2, .ref y), (3, .ref o9), (4, .int (nI k))]) hx hb dL_law_365 hl (by decide) rfl (fun ls hl => ?_)
    refine lv_aload_n hx hb dL_law_367 rfl (lv_at hl 3 rfl) ?_
    refine lv_aload_n hx hb dL_law_368 rfl (lv_at hl 1 rfl) ?_
    refine lv_iload hx hb dL_law_369 (lv_at hl 5 rfl) ?_
    refine lv_iconst (v := 1) hx hb dL_law_371 (by decide) ?_
    refine lv_iadd hx hb dL_law_372 ?_
    refine va_sld hx hb hX hbl hbA hS (law_in (j := 1) hk hL (by decide)) dL_law_373 ?_
    refine lv_aload_n hx hb dL_law_374 rfl (lv_at hl 1 rfl) ?_
    refine lv_iload hx hb dL_law_375 (lv_at hl 5 rfl) ?_
    refine lv_iconst (v := 2) hx hb dL_law_377 (by decide) ?_
    refine lv_iadd hx hb dL_law_378 ?_
    refine va_sld hx hb hX hbl hbA hS (law_in (j := 2) hk hL (by decide)) dL_law_379 ?_
    refine z_calli (va_runV (As := [.int (xs ((nI k) + 1).toNatClampNeg), .int (xs ((nI k) + 2).toNatClampNeg)]) (rest := []) ⟨hx, hb, hml, hown, hts⟩ (c6_appeal l D cy s.heap.size u9 y r B (xs ((nI k) + 1).toNatClampNeg) (xs ((nI k) + 2).toNatClampNeg) hJ.1) (cwV 2 hts gL_law_X6_appeal rfl rfl rfl (by decide +kernel) ⟨Nat.le_of_ble_eq_true rfl, Nat.le_of_ble_eq_true rfl⟩) (z_preV hA hS hM (m_recv hA hM)) rfl rfl hl.1 rfl (lv_room (Nat.le_of_ble_eq_true rfl)) dL_law_380 ⟨hc, hs⟩) hS (fun r8 B8 H locs hw8 hM hz8 hS => ?_)
    rcases hw8 with ⟨-, rfl, hB8⟩ | ⟨hn8, -⟩
    rotate_left
    · exact absurd hcd hn8
    rw [hB8] at hM
    refine lv_istore (lv' := [(6, .int (an_appeal (z2 B 27 0 0) (xs ((nI k) + 1).toNatClampNeg) (xs ((nI k) + 2).toNatClampNeg))), (5, .int 0), (0, .ref b), (1, .ref x), (2, .ref y), (3, .ref o9), (4, .int (nI k))]) hx hb dL_law_383 hl (by decide) rfl (fun ls hl => ?_)
    refine lv_aload_n hx hb dL_law_385 rfl (lv_at hl 4 rfl) ?_
    refine z_calli (va_runV (As := []) (rest := []) ⟨hx, hb, hml, hown, hts⟩ (c6_thrown l D cy s.heap.size u9 y r (up_appeal (z2 B 27 0 0) (xs ((nI k) + 1).toNatClampNeg) (xs ((nI k) + 2).toNatClampNeg))) (cwV 0 hts gL_law_X6_thrown rfl rfl rfl (by decide +kernel) ⟨Nat.le_of_ble_eq_true rfl, Nat.le_of_ble_eq_true rfl⟩) (z_preV hA hS hM (m_recv hA hM)) rfl rfl hl.1 rfl (lv_room (Nat.le_of_ble_eq_true rfl)) dL_law_386 ⟨hc, hs⟩) hS (fun r7 B7 H locs hw7 hM hz7 hS => ?_)
    obtain ⟨rfl, hB7⟩ := hw7
    rw [hB7] at hM
    obtain ⟨w2, hH, hM2, hF2⟩ := hM
    rw [t27_appeal]
    have ko2 : zK w2 o9 = 14 := (hF2.1 o9).trans (hGo.1.trans k_o)
    have no2 : zN w2 o9 = 1 := (hF2.2.2.1 o9).trans (hGo.2.1.trans n_o)
    refine lv_iload hx hb dL_law_389 (lv_at hl 1 rfl) ?_
    refine lv_icmp_eq (tgt := 396) hx hb dL_law_391 (by decide) (fun _ => ?_) (fun c_1 => absurd c_1 (by decide))
    refine lv_iload hx hb dL_law_396 (lv_at hl 1 rfl) ?_
    refine lv_if_ne (tgt := 413) hx hb dL_law_398 (by decide) (fun c_2 => absurd c_2 (by decide)) (fun _ => ?_)
    refine lv_aload_n hx hb dL_law_401 rfl (lv_at hl 5 rfl) ?_
    refine lv_iconst (v := 0) hx hb dL_law_402 (by decide) ?_
    refine z_jald hx hb hA hH (zk0 ko2 (by decide)) (zEn (zE_k14 ko2) no2) 0 rfl (by decide) (by decide) dL_law_403 ?_
    rw [show zJ w2 o9 0 = ((an_appeal (z2 B 27 0 0) (xs ((nI k) + 1).toNatClampNeg) (xs ((nI k) + 2).toNatClampNeg))).toInt64 from (congrFun (hF2.2.2.2.2.1 o9) 0).trans hJv]
    refine lv_iload hx hb dL_law_404 (lv_at hl 0 rfl) ?_
    refine lv_i2l (v := ((an_appeal (z2 B 27 0 0) (xs ((nI k) + 1).toNatClampNeg) (xs ((nI k) + 2).toNatClampNeg))).toInt64) hx hb dL_law_406 rfl ?_
    refine W.lcmp hx hb dL_law_407 ?_
    rw [lg_self]
    refine lv_if_eq (tgt := 413) hx hb dL_law_408 (by decide) (fun _ => ?_) (fun c_3 => absurd c_3 (by decide))
    refine lv_goto (tgt := 1431) hx hb dL_law_413 (by decide) ?_
    have hl_4 : lv_has ls 7 [(0, .ref b), (1, .ref x), (2, .ref y), (3, .ref o9), (4, .int (nI k))] := lv_sub hl [2, 3, 4, 5, 6] rfl
    exact kk w2 _ _ _ _ ⟨Rep_mFr hRep1 hF2, hM2, (JU_appeal (mJ_27 hJ 0) (by rw [c27_appeal]; exact hcd)), ko2, no2⟩ hH hS hl_4
  · rw [c27_appeal] at hcd ⊢
    rw [hu9] at hH
    have hM : mH D cy s.heap.size w y r B H := ⟨w, hH, hM0, mFr_rf w⟩
    refine lv_istore (lv' := [(5, .int (cd_appeal B (xs ((nI k) + 1).toNatClampNeg) (xs ((nI k) + 2).toNatClampNeg))), (0, .ref b), (1, .ref x), (2, .ref y), (3, .ref o9), (4, .int (nI k))]) hx hb dL_law_365 hl (by decide) rfl (fun ls hl => ?_)
    refine lv_aload_n hx hb dL_law_367 rfl (lv_at hl 3 rfl) ?_
    refine lv_aload_n hx hb dL_law_368 rfl (lv_at hl 1 rfl) ?_
    refine lv_iload hx hb dL_law_369 (lv_at hl 5 rfl) ?_
    refine lv_iconst (v := 1) hx hb dL_law_371 (by decide) ?_
    refine lv_iadd hx hb dL_law_372 ?_
    refine va_sld hx hb hX hbl hbA hS (law_in (j := 1) hk hL (by decide)) dL_law_373 ?_
    refine lv_aload_n hx hb dL_law_374 rfl (lv_at hl 1 rfl) ?_
    refine lv_iload hx hb dL_law_375 (lv_at hl 5 rfl) ?_
    refine lv_iconst (v := 2) hx hb dL_law_377 (by decide) ?_
    refine lv_iadd hx hb dL_law_378 ?_
    refine va_sld hx hb hX hbl hbA hS (law_in (j := 2) hk hL (by decide)) dL_law_379 ?_
    refine z_calli (va_runV (As := [.int (xs ((nI k) + 1).toNatClampNeg), .int (xs ((nI k) + 2).toNatClampNeg)]) (rest := []) ⟨hx, hb, hml, hown, hts⟩ (c6_appeal l D cy s.heap.size w y r B (xs ((nI k) + 1).toNatClampNeg) (xs ((nI k) + 2).toNatClampNeg) hJ.1) (cwV 2 hts gL_law_X6_appeal rfl rfl rfl (by decide +kernel) ⟨Nat.le_of_ble_eq_true rfl, Nat.le_of_ble_eq_true rfl⟩) (z_preV hA hS hM (m_recv hA hM)) rfl rfl hl.1 rfl (lv_room (Nat.le_of_ble_eq_true rfl)) dL_law_380 ⟨hc, hs⟩) hS (fun r8 B8 H locs hw8 hM hz8 hS => ?_)
    rcases hw8 with ⟨hn8, -, -⟩ | ⟨-, hB8⟩
    · exact absurd hn8 hcd
    rw [hB8] at hM
    refine lv_istore (lv' := [(6, .int r8), (5, .int (cd_appeal B (xs ((nI k) + 1).toNatClampNeg) (xs ((nI k) + 2).toNatClampNeg))), (0, .ref b), (1, .ref x), (2, .ref y), (3, .ref o9), (4, .int (nI k))]) hx hb dL_law_383 hl (by decide) rfl (fun ls hl => ?_)
    refine lv_aload_n hx hb dL_law_385 rfl (lv_at hl 4 rfl) ?_
    refine z_calli (va_runV (As := []) (rest := []) ⟨hx, hb, hml, hown, hts⟩ (c6_thrown l D cy s.heap.size w y r (z2 B 27 0 (cd_appeal B (xs ((nI k) + 1).toNatClampNeg) (xs ((nI k) + 2).toNatClampNeg)))) (cwV 0 hts gL_law_X6_thrown rfl rfl rfl (by decide +kernel) ⟨Nat.le_of_ble_eq_true rfl, Nat.le_of_ble_eq_true rfl⟩) (z_preV hA hS hM (m_recv hA hM)) rfl rfl hl.1 rfl (lv_room (Nat.le_of_ble_eq_true rfl)) dL_law_386 ⟨hc, hs⟩) hS (fun r7 B7 H locs hw7 hM hz7 hS => ?_)
    obtain ⟨rfl, hB7⟩ := hw7
    rw [hB7] at hM
    obtain ⟨w2, hH, hM2, hF2⟩ := hM
    rw [t27_v]
    have ko2 : zK w2 o9 = 14 := (hF2.1 o9).trans k_o
    have no2 : zN w2 o9 = 1 := (hF2.2.2.1 o9).trans n_o
    refine lv_iload hx hb dL_law_389 (lv_at hl 1 rfl) ?_
    refine lv_icmp_eq (tgt := 396) hx hb dL_law_391 (by decide) (fun c_5 => ?_) (fun c_5 => absurd (rfl) c_5)
    refine lv_iload hx hb dL_law_396 (lv_at hl 1 rfl) ?_
    refine lv_if_ne (tgt := 413) hx hb dL_law_398 (by decide) (fun _ => ?_) (fun h9 => absurd h9 hcd)
    refine lv_goto (tgt := 1431) hx hb dL_law_413 (by decide) ?_
    have hl_6 : lv_has ls 7 [(0, .ref b), (1, .ref x), (2, .ref y), (3, .ref o9), (4, .int (nI k))] := lv_sub hl [2, 3, 4, 5, 6] rfl
    exact kk w2 _ _ _ _ ⟨Rep_mFr (Rep_27 hRep _) hF2, hM2, mJ_27 hJ _, ko2, no2⟩ hH hS hl_6
set_option maxHeartbeats 4000000 in
set_option maxRecDepth 100000 in
theorem law_release {p : Program} {e : Env} {s : State} {m : MethodId} {below : List Frame} {meth : Method} {c : Code} {H : Heap} {locs : List Loc} {cells slots : Nat} {ls : Array Slot} (l : Launch) (hl9 : l.stackTraces = false) {D : va_G} {cy : Nat → ClassId} {b L : Nat} {xs : Nat → Int32} (hL : L ≤ 2560) (C0 : lw_At p s m meth c b L xs) (hA : zA D cy s.heap.size s) {w : zW} {x y o9 : Nat} {r : Nat → Nat} {B : mB} (hI : LI w x y o9 r B) (hH : zH D cy s.heap.size w H) (hS : va_S (fun q : Nat => s.heap.size ≤ q) s.heap H locs) {k : Nat} (hk : k + 5 ≤ L) (hl : lv_has ls 7 [(0, .ref b), (1, .ref x), (2, .ref y), (3, .ref o9), (4, .int (nI k))]) (hc : cells + 8 ≤ 601024) (hs : slots + 100 ≤ 7293034) (kk : ∀ (w1 : zW) (B1 : mB) (H1 : Heap) (locs1 : List Loc) (ls1 : Array Slot), LI w1 x y o9 r B1 → zH D cy s.heap.size w1 H1 → va_S (fun q : Nat => s.heap.size ≤ q) s.heap H1 locs1 → lv_has ls1 7 [(0, .ref b), (1, .ref x), (2, .ref y), (3, .ref o9), (4, .int (nI k))] → W p l e room_1 s m #[Value.ref b] below meth c H1 locs1 (cells + 8) (slots + 100) (lw_Z below #[Value.ref b] s) (F0 m 1431 ls1 [])) : W p l e room_1 s m #[Value.ref b] below meth c H locs cells slots (lw_Z below #[Value.ref b] s) (F0 m 416 ls []) := by
  obtain ⟨hx, hb, hr, hml, hown, hts0, hX, hbl, hlocks, hgv⟩ := id C0
  have hb : c.code = cL_law := hb
  have hown : s.vm.findClass RL = some m.cls := hown
  have hts : ∀ w ∈ wsL_law, w.before #[Value.ref b] s = true := fun w h => hts0 w (wsL_law_in w h)
  have hbA : ¬ (fun q : Nat => s.heap.size ≤ q) b := Nat.not_le.mpr hbl
  obtain ⟨hRep, hM0, hJ, k_o, n_o⟩ := hI
  refine lv_aload_n hx hb dL_law_416 rfl (lv_at hl 1 rfl) ?_
  refine lv_aload_n hx hb dL_law_417 rfl (lv_at hl 0 rfl) ?_
  refine lv_iload hx hb dL_law_418 (lv_at hl 4 rfl) ?_
  refine lv_iconst (v := 1) hx hb dL_law_420 (by decide) ?_
  refine lv_iadd hx hb dL_law_421 ?_
  refine va_sld hx hb hX hbl hbA hS (law_in (j := 1) hk hL (by decide)) dL_law_422 ?_
  refine lv_aload_n hx hb dL_law_423 rfl (lv_at hl 3 rfl) ?_
  refine z_xcalli (vx_runSX (As := [.ref x, .int (xs ((nI k) + 1).toNatClampNeg), .ref o9]) (rest := []) ⟨hx, hb, hml, hown, hts⟩ (zL_release l hl9 D cy s.heap.size w x o9 (z2 B 27 0 0) (xs ((nI k) + 1).toNatClampNeg) k_o n_o (Rep_27 hRep 0) (mJ_27 hJ 0)) (vx_cwSW 3 hts gL_law_L_release rfl rfl rfl (by decide +kernel) ⟨Nat.le_of_ble_eq_true rfl, Nat.le_of_ble_eq_true rfl⟩) (z_preS hA hS hH) rfl rfl hl.1 rfl (lv_room (Nat.le_of_ble_eq_true rfl)) dL_law_424 ⟨hc, hs⟩) hS (fun E9 ce9 q9 u9 H locs hw9 hH hz9 hS hce9 hv9 hcl9 => hw9.elim) (fun r9 u9 H locs hw9 hH hz9 hS => ?_)
  rcases hw9 with ⟨hcd, rfl, hRep1, hG, hJv⟩ | ⟨hcd, rfl, hu9⟩
  · rw [c27_P] at hcd
    have hGo := hG o9 (Or.inr (Or.inr (Or.inr k_o)))
    have hM : mH D cy s.heap.size u9 y r B H := ⟨u9, hH, mRep_g hM0 hG, mFr_rf u9⟩
    refine lv_istore (lv' := [(5, .int 0), (0, .ref b), (1, .ref x), (2, .ref y), (3, .ref o9), (4, .int (nI k))]) hx hb dL_law_427 hl (by decide) rfl (fun ls hl => ?_)
    refine lv_aload_n hx hb dL_law_429 rfl (lv_at hl 3 rfl) ?_
    refine lv_aload_n hx hb dL_law_430 rfl (lv_at hl 1 rfl) ?_
    refine lv_iload hx hb dL_law_431 (lv_at hl 5 rfl) ?_
    refine lv_iconst (v := 1) hx hb dL_law_433 (by decide) ?_
    refine lv_iadd hx hb dL_law_434 ?_
    refine va_sld hx hb hX hbl hbA hS (law_in (j := 1) hk hL (by decide)) dL_law_435 ?_
    refine z_calli (va_runV (As := [.int (xs ((nI k) + 1).toNatClampNeg)]) (rest := []) ⟨hx, hb, hml, hown, hts⟩ (c6_release l D cy s.heap.size u9 y r B (xs ((nI k) + 1).toNatClampNeg) hJ.1) (cwV 1 hts gL_law_X6_release rfl rfl rfl (by decide +kernel) ⟨Nat.le_of_ble_eq_true rfl, Nat.le_of_ble_eq_true rfl⟩) (z_preV hA hS hM (m_recv hA hM)) rfl rfl hl.1 rfl (lv_room (Nat.le_of_ble_eq_true rfl)) dL_law_436 ⟨hc, hs⟩) hS (fun r8 B8 H locs hw8 hM hz8 hS => ?_)
    rcases hw8 with ⟨-, rfl, hB8⟩ | ⟨hn8, -⟩
    rotate_left
    · exact absurd hcd hn8
    rw [hB8] at hM
    refine lv_istore (lv' := [(6, .int (an_release (z2 B 27 0 0) (xs ((nI k) + 1).toNatClampNeg))), (5, .int 0), (0, .ref b), (1, .ref x), (2, .ref y), (3, .ref o9), (4, .int (nI k))]) hx hb dL_law_439 hl (by decide) rfl (fun ls hl => ?_)
    refine lv_aload_n hx hb dL_law_441 rfl (lv_at hl 4 rfl) ?_
    refine z_calli (va_runV (As := []) (rest := []) ⟨hx, hb, hml, hown, hts⟩ (c6_thrown l D cy s.heap.size u9 y r (z2 B 27 0 0)) (cwV 0 hts gL_law_X6_thrown rfl rfl rfl (by decide +kernel) ⟨Nat.le_of_ble_eq_true rfl, Nat.le_of_ble_eq_true rfl⟩) (z_preV hA hS hM (m_recv hA hM)) rfl rfl hl.1 rfl (lv_room (Nat.le_of_ble_eq_true rfl)) dL_law_442 ⟨hc, hs⟩) hS (fun r7 B7 H locs hw7 hM hz7 hS => ?_)
    obtain ⟨rfl, hB7⟩ := hw7
    rw [hB7] at hM
    obtain ⟨w2, hH, hM2, hF2⟩ := hM
    rw [t27_0]
    have ko2 : zK w2 o9 = 14 := (hF2.1 o9).trans (hGo.1.trans k_o)
    have no2 : zN w2 o9 = 1 := (hF2.2.2.1 o9).trans (hGo.2.1.trans n_o)
    refine lv_iload hx hb dL_law_445 (lv_at hl 1 rfl) ?_
    refine lv_icmp_eq (tgt := 452) hx hb dL_law_447 (by decide) (fun _ => ?_) (fun c_1 => absurd c_1 (by decide))
    refine lv_iload hx hb dL_law_452 (lv_at hl 1 rfl) ?_
    refine lv_if_ne (tgt := 469) hx hb dL_law_454 (by decide) (fun c_2 => absurd c_2 (by decide)) (fun _ => ?_)
    refine lv_aload_n hx hb dL_law_457 rfl (lv_at hl 5 rfl) ?_
    refine lv_iconst (v := 0) hx hb dL_law_458 (by decide) ?_
    refine z_jald hx hb hA hH (zk0 ko2 (by decide)) (zEn (zE_k14 ko2) no2) 0 rfl (by decide) (by decide) dL_law_459 ?_
    rw [show zJ w2 o9 0 = ((an_release (z2 B 27 0 0) (xs ((nI k) + 1).toNatClampNeg))).toInt64 from (congrFun (hF2.2.2.2.2.1 o9) 0).trans hJv]
    refine lv_iload hx hb dL_law_460 (lv_at hl 0 rfl) ?_
    refine lv_i2l (v := ((an_release (z2 B 27 0 0) (xs ((nI k) + 1).toNatClampNeg))).toInt64) hx hb dL_law_462 rfl ?_
    refine W.lcmp hx hb dL_law_463 ?_
    rw [lg_self]
    refine lv_if_eq (tgt := 469) hx hb dL_law_464 (by decide) (fun _ => ?_) (fun c_3 => absurd c_3 (by decide))
    refine lv_goto (tgt := 1431) hx hb dL_law_469 (by decide) ?_
    have hl_4 : lv_has ls 7 [(0, .ref b), (1, .ref x), (2, .ref y), (3, .ref o9), (4, .int (nI k))] := lv_sub hl [2, 3, 4, 5, 6] rfl
    exact kk w2 _ _ _ _ ⟨Rep_mFr hRep1 hF2, hM2, (mJ_27 hJ 0), ko2, no2⟩ hH hS hl_4
  · rw [c27_P] at hcd ⊢
    rw [hu9] at hH
    have hM : mH D cy s.heap.size w y r B H := ⟨w, hH, hM0, mFr_rf w⟩
    refine lv_istore (lv' := [(5, .int (cd_P B (xs ((nI k) + 1).toNatClampNeg))), (0, .ref b), (1, .ref x), (2, .ref y), (3, .ref o9), (4, .int (nI k))]) hx hb dL_law_427 hl (by decide) rfl (fun ls hl => ?_)
    refine lv_aload_n hx hb dL_law_429 rfl (lv_at hl 3 rfl) ?_
    refine lv_aload_n hx hb dL_law_430 rfl (lv_at hl 1 rfl) ?_
    refine lv_iload hx hb dL_law_431 (lv_at hl 5 rfl) ?_
    refine lv_iconst (v := 1) hx hb dL_law_433 (by decide) ?_
    refine lv_iadd hx hb dL_law_434 ?_
    refine va_sld hx hb hX hbl hbA hS (law_in (j := 1) hk hL (by decide)) dL_law_435 ?_
    refine z_calli (va_runV (As := [.int (xs ((nI k) + 1).toNatClampNeg)]) (rest := []) ⟨hx, hb, hml, hown, hts⟩ (c6_release l D cy s.heap.size w y r B (xs ((nI k) + 1).toNatClampNeg) hJ.1) (cwV 1 hts gL_law_X6_release rfl rfl rfl (by decide +kernel) ⟨Nat.le_of_ble_eq_true rfl, Nat.le_of_ble_eq_true rfl⟩) (z_preV hA hS hM (m_recv hA hM)) rfl rfl hl.1 rfl (lv_room (Nat.le_of_ble_eq_true rfl)) dL_law_436 ⟨hc, hs⟩) hS (fun r8 B8 H locs hw8 hM hz8 hS => ?_)
    rcases hw8 with ⟨hn8, -, -⟩ | ⟨-, hB8⟩
    · exact absurd hn8 hcd
    rw [hB8] at hM
    refine lv_istore (lv' := [(6, .int r8), (5, .int (cd_P B (xs ((nI k) + 1).toNatClampNeg))), (0, .ref b), (1, .ref x), (2, .ref y), (3, .ref o9), (4, .int (nI k))]) hx hb dL_law_439 hl (by decide) rfl (fun ls hl => ?_)
    refine lv_aload_n hx hb dL_law_441 rfl (lv_at hl 4 rfl) ?_
    refine z_calli (va_runV (As := []) (rest := []) ⟨hx, hb, hml, hown, hts⟩ (c6_thrown l D cy s.heap.size w y r (z2 B 27 0 (cd_P B (xs ((nI k) + 1).toNatClampNeg)))) (cwV 0 hts gL_law_X6_thrown rfl rfl rfl (by decide +kernel) ⟨Nat.le_of_ble_eq_true rfl, Nat.le_of_ble_eq_true rfl⟩) (z_preV hA hS hM (m_recv hA hM)) rfl rfl hl.1 rfl (lv_room (Nat.le_of_ble_eq_true rfl)) dL_law_442 ⟨hc, hs⟩) hS (fun r7 B7 H locs hw7 hM hz7 hS => ?_)
    obtain ⟨rfl, hB7⟩ := hw7
    rw [hB7] at hM
    obtain ⟨w2, hH, hM2, hF2⟩ := hM
    rw [t27_v]
    have ko2 : zK w2 o9 = 14 := (hF2.1 o9).trans k_o
    have no2 : zN w2 o9 = 1 := (hF2.2.2.1 o9).trans n_o
    refine lv_iload hx hb dL_law_445 (lv_at hl 1 rfl) ?_
    refine lv_icmp_eq (tgt := 452) hx hb dL_law_447 (by decide) (fun c_5 => ?_) (fun c_5 => absurd (rfl) c_5)
    refine lv_iload hx hb dL_law_452 (lv_at hl 1 rfl) ?_
    refine lv_if_ne (tgt := 469) hx hb dL_law_454 (by decide) (fun _ => ?_) (fun h9 => absurd h9 hcd)
    refine lv_goto (tgt := 1431) hx hb dL_law_469 (by decide) ?_
    have hl_6 : lv_has ls 7 [(0, .ref b), (1, .ref x), (2, .ref y), (3, .ref o9), (4, .int (nI k))] := lv_sub hl [2, 3, 4, 5, 6] rfl
    exact kk w2 _ _ _ _ ⟨Rep_mFr (Rep_27 hRep _) hF2, hM2, mJ_27 hJ _, ko2, no2⟩ hH hS hl_6
set_option maxHeartbeats 4000000 in
set_option maxRecDepth 100000 in
theorem law_isIn {p : Program} {e : Env} {s : State} {m : MethodId} {below : List Frame} {meth : Method} {c : Code} {H : Heap} {locs : List Loc} {cells slots : Nat} {ls : Array Slot} (l : Launch) (hl9 : l.stackTraces = false) {D : va_G} {cy : Nat → ClassId} {b L : Nat} {xs : Nat → Int32} (hL : L ≤ 2560) (C0 : lw_At p s m meth c b L xs) (hA : zA D cy s.heap.size s) {w : zW} {x y o9 : Nat} {r : Nat → Nat} {B : mB} (hI : LI w x y o9 r B) (hH : zH D cy s.heap.size w H) (hS : va_S (fun q : Nat => s.heap.size ≤ q) s.heap H locs) {k : Nat} (hk : k + 5 ≤ L) (hl : lv_has ls 7 [(0, .ref b), (1, .ref x), (2, .ref y), (3, .ref o9), (4, .int (nI k))]) (hc : cells + 8 ≤ 601024) (hs : slots + 100 ≤ 7293034) (kk : ∀ (w1 : zW) (B1 : mB) (H1 : Heap) (locs1 : List Loc) (ls1 : Array Slot), LI w1 x y o9 r B1 → zH D cy s.heap.size w1 H1 → va_S (fun q : Nat => s.heap.size ≤ q) s.heap H1 locs1 → lv_has ls1 7 [(0, .ref b), (1, .ref x), (2, .ref y), (3, .ref o9), (4, .int (nI k))] → W p l e room_1 s m #[Value.ref b] below meth c H1 locs1 (cells + 8) (slots + 100) (lw_Z below #[Value.ref b] s) (F0 m 1431 ls1 [])) : W p l e room_1 s m #[Value.ref b] below meth c H locs cells slots (lw_Z below #[Value.ref b] s) (F0 m 472 ls []) := by
  obtain ⟨hx, hb, hr, hml, hown, hts0, hX, hbl, hlocks, hgv⟩ := id C0
  have hb : c.code = cL_law := hb
  have hown : s.vm.findClass RL = some m.cls := hown
  have hts : ∀ w ∈ wsL_law, w.before #[Value.ref b] s = true := fun w h => hts0 w (wsL_law_in w h)
  have hbA : ¬ (fun q : Nat => s.heap.size ≤ q) b := Nat.not_le.mpr hbl
  obtain ⟨hRep, hM0, hJ, k_o, n_o⟩ := hI
  refine lv_aload_n hx hb dL_law_472 rfl (lv_at hl 1 rfl) ?_
  refine lv_aload_n hx hb dL_law_473 rfl (lv_at hl 0 rfl) ?_
  refine lv_iload hx hb dL_law_474 (lv_at hl 4 rfl) ?_
  refine lv_iconst (v := 1) hx hb dL_law_476 (by decide) ?_
  refine lv_iadd hx hb dL_law_477 ?_
  refine va_sld hx hb hX hbl hbA hS (law_in (j := 1) hk hL (by decide)) dL_law_478 ?_
  refine lv_aload_n hx hb dL_law_479 rfl (lv_at hl 3 rfl) ?_
  refine z_xcalli (vx_runSX (As := [.ref x, .int (xs ((nI k) + 1).toNatClampNeg), .ref o9]) (rest := []) ⟨hx, hb, hml, hown, hts⟩ (zL_isIn l hl9 D cy s.heap.size w x o9 (z2 B 27 0 0) (xs ((nI k) + 1).toNatClampNeg) k_o n_o (Rep_27 hRep 0) (mJ_27 hJ 0)) (vx_cwSW 3 hts gL_law_L_isIn rfl rfl rfl (by decide +kernel) ⟨Nat.le_of_ble_eq_true rfl, Nat.le_of_ble_eq_true rfl⟩) (z_preS hA hS hH) rfl rfl hl.1 rfl (lv_room (Nat.le_of_ble_eq_true rfl)) dL_law_480 ⟨hc, hs⟩) hS (fun E9 ce9 q9 u9 H locs hw9 hH hz9 hS hce9 hv9 hcl9 => hw9.elim) (fun r9 u9 H locs hw9 hH hz9 hS => ?_)
  rcases hw9 with ⟨hcd, rfl, hRep1, hG, hJv⟩ | ⟨hcd, rfl, hu9⟩
  · rw [c27_P] at hcd
    have hGo := hG o9 (Or.inr (Or.inr (Or.inr k_o)))
    have hM : mH D cy s.heap.size u9 y r B H := ⟨u9, hH, mRep_g hM0 hG, mFr_rf u9⟩
    refine lv_istore (lv' := [(5, .int 0), (0, .ref b), (1, .ref x), (2, .ref y), (3, .ref o9), (4, .int (nI k))]) hx hb dL_law_483 hl (by decide) rfl (fun ls hl => ?_)
    refine lv_aload_n hx hb dL_law_485 rfl (lv_at hl 3 rfl) ?_
    refine lv_aload_n hx hb dL_law_486 rfl (lv_at hl 1 rfl) ?_
    refine lv_iload hx hb dL_law_487 (lv_at hl 5 rfl) ?_
    refine lv_iconst (v := 1) hx hb dL_law_489 (by decide) ?_
    refine lv_iadd hx hb dL_law_490 ?_
    refine va_sld hx hb hX hbl hbA hS (law_in (j := 1) hk hL (by decide)) dL_law_491 ?_
    refine z_calli (va_runV (As := [.int (xs ((nI k) + 1).toNatClampNeg)]) (rest := []) ⟨hx, hb, hml, hown, hts⟩ (c6_isIn l D cy s.heap.size u9 y r B (xs ((nI k) + 1).toNatClampNeg) hJ.1) (cwV 1 hts gL_law_X6_isIn rfl rfl rfl (by decide +kernel) ⟨Nat.le_of_ble_eq_true rfl, Nat.le_of_ble_eq_true rfl⟩) (z_preV hA hS hM (m_recv hA hM)) rfl rfl hl.1 rfl (lv_room (Nat.le_of_ble_eq_true rfl)) dL_law_492 ⟨hc, hs⟩) hS (fun r8 B8 H locs hw8 hM hz8 hS => ?_)
    rcases hw8 with ⟨-, rfl, hB8⟩ | ⟨hn8, -⟩
    rotate_left
    · exact absurd hcd hn8
    rw [hB8] at hM
    refine lv_istore (lv' := [(6, .int (an_isIn (z2 B 27 0 0) (xs ((nI k) + 1).toNatClampNeg))), (5, .int 0), (0, .ref b), (1, .ref x), (2, .ref y), (3, .ref o9), (4, .int (nI k))]) hx hb dL_law_495 hl (by decide) rfl (fun ls hl => ?_)
    refine lv_aload_n hx hb dL_law_497 rfl (lv_at hl 4 rfl) ?_
    refine z_calli (va_runV (As := []) (rest := []) ⟨hx, hb, hml, hown, hts⟩ (c6_thrown l D cy s.heap.size u9 y r (z2 B 27 0 0)) (cwV 0 hts gL_law_X6_thrown rfl rfl rfl (by decide +kernel) ⟨Nat.le_of_ble_eq_true rfl, Nat.le_of_ble_eq_true rfl⟩) (z_preV hA hS hM (m_recv hA hM)) rfl rfl hl.1 rfl (lv_room (Nat.le_of_ble_eq_true rfl)) dL_law_498 ⟨hc, hs⟩) hS (fun r7 B7 H locs hw7 hM hz7 hS => ?_)
    obtain ⟨rfl, hB7⟩ := hw7
    rw [hB7] at hM
    obtain ⟨w2, hH, hM2, hF2⟩ := hM
    rw [t27_0]
    have ko2 : zK w2 o9 = 14 := (hF2.1 o9).trans (hGo.1.trans k_o)
    have no2 : zN w2 o9 = 1 := (hF2.2.2.1 o9).trans (hGo.2.1.trans n_o)
    refine lv_iload hx hb dL_law_501 (lv_at hl 1 rfl) ?_
    refine lv_icmp_eq (tgt := 508) hx hb dL_law_503 (by decide) (fun _ => ?_) (fun c_1 => absurd c_1 (by decide))
    refine lv_iload hx hb dL_law_508 (lv_at hl 1 rfl) ?_
    refine lv_if_ne (tgt := 532) hx hb dL_law_510 (by decide) (fun c_2 => absurd c_2 (by decide)) (fun _ => ?_)
    refine lv_aload_n hx hb dL_law_513 rfl (lv_at hl 5 rfl) ?_
    refine lv_iconst (v := 0) hx hb dL_law_514 (by decide) ?_
    refine z_jald hx hb hA hH (zk0 ko2 (by decide)) (zEn (zE_k14 ko2) no2) 0 rfl (by decide) (by decide) dL_law_515 ?_
    rw [show zJ w2 o9 0 = (if ((an_isIn (z2 B 27 0 0) (xs ((nI k) + 1).toNatClampNeg))) = 0 then (0 : Int64) else 1) from (congrFun (hF2.2.2.2.2.1 o9) 0).trans hJv]
    refine lv_iload hx hb dL_law_516 (lv_at hl 0 rfl) ?_
    refine lv_if_eq (tgt := 525) hx hb dL_law_518 (by decide) (fun c_3 => ?_) (fun c_3 => ?_)
    · rw [if_pos c_3]
      refine lv_lconst (v := 0) hx hb dL_law_525 (by decide) ?_
      refine W.lcmp hx hb dL_law_526 ?_
      rw [lg_self]
      refine lv_if_eq (tgt := 532) hx hb dL_law_527 (by decide) (fun _ => ?_) (fun c_4 => absurd c_4 (by decide))
      refine lv_goto (tgt := 1431) hx hb dL_law_532 (by decide) ?_
      have hl_5 : lv_has ls 7 [(0, .ref b), (1, .ref x), (2, .ref y), (3, .ref o9), (4, .int (nI k))] := lv_sub hl [2, 3, 4, 5, 6] rfl
      exact kk w2 _ _ _ _ ⟨Rep_mFr hRep1 hF2, hM2, (mJ_27 hJ 0), ko2, no2⟩ hH hS hl_5
    · rw [if_neg c_3]
      refine lv_lconst (v := 1) hx hb dL_law_521 (by decide) ?_
      refine lv_goto (tgt := 526) hx hb dL_law_522 (by decide) ?_
      refine W.lcmp hx hb dL_law_526 ?_
      rw [lg_self]
      refine lv_if_eq (tgt := 532) hx hb dL_law_527 (by decide) (fun _ => ?_) (fun c_6 => absurd c_6 (by decide))
      refine lv_goto (tgt := 1431) hx hb dL_law_532 (by decide) ?_
      have hl_7 : lv_has ls 7 [(0, .ref b), (1, .ref x), (2, .ref y), (3, .ref o9), (4, .int (nI k))] := lv_sub hl [2, 3, 4, 5, 6] rfl
      exact kk w2 _ _ _ _ ⟨Rep_mFr hRep1 hF2, hM2, (mJ_27 hJ 0), ko2, no2⟩ hH hS hl_7
  · rw [c27_P] at hcd ⊢
    rw [hu9] at hH
    have hM : mH D cy s.heap.size w y r B H := ⟨w, hH, hM0, mFr_rf w⟩
    refine lv_istore (lv' := [(5, .int (cd_P B (xs ((nI k) + 1).toNatClampNeg))), (0, .ref b), (1, .ref x), (2, .ref y), (3, .ref o9), (4, .int (nI k))]) hx hb dL_law_483 hl (by decide) rfl (fun ls hl => ?_)
    refine lv_aload_n hx hb dL_law_485 rfl (lv_at hl 3 rfl) ?_
    refine lv_aload_n hx hb dL_law_486 rfl (lv_at hl 1 rfl) ?_
    refine lv_iload hx hb dL_law_487 (lv_at hl 5 rfl) ?_
    refine lv_iconst (v := 1) hx hb dL_law_489 (by decide) ?_
    refine lv_iadd hx hb dL_law_490 ?_
    refine va_sld hx hb hX hbl hbA hS (law_in (j := 1) hk hL (by decide)) dL_law_491 ?_
    refine z_calli (va_runV (As := [.int (xs ((nI k) + 1).toNatClampNeg)]) (rest := []) ⟨hx, hb, hml, hown, hts⟩ (c6_isIn l D cy s.heap.size w y r B (xs ((nI k) + 1).toNatClampNeg) hJ.1) (cwV 1 hts gL_law_X6_isIn rfl rfl rfl (by decide +kernel) ⟨Nat.le_of_ble_eq_true rfl, Nat.le_of_ble_eq_true rfl⟩) (z_preV hA hS hM (m_recv hA hM)) rfl rfl hl.1 rfl (lv_room (Nat.le_of_ble_eq_true rfl)) dL_law_492 ⟨hc, hs⟩) hS (fun r8 B8 H locs hw8 hM hz8 hS => ?_)
    rcases hw8 with ⟨hn8, -, -⟩ | ⟨-, hB8⟩
    · exact absurd hn8 hcd
    rw [hB8] at hM
    refine lv_istore (lv' := [(6, .int r8), (5, .int (cd_P B (xs ((nI k) + 1).toNatClampNeg))), (0, .ref b), (1, .ref x), (2, .ref y), (3, .ref o9), (4, .int (nI k))]) hx hb dL_law_495 hl (by decide) rfl (fun ls hl => ?_)
    refine lv_aload_n hx hb dL_law_497 rfl (lv_at hl 4 rfl) ?_
    refine z_calli (va_runV (As := []) (rest := []) ⟨hx, hb, hml, hown, hts⟩ (c6_thrown l D cy s.heap.size w y r (z2 B 27 0 (cd_P B (xs ((nI k) + 1).toNatClampNeg)))) (cwV 0 hts gL_law_X6_thrown rfl rfl rfl (by decide +kernel) ⟨Nat.le_of_ble_eq_true rfl, Nat.le_of_ble_eq_true rfl⟩) (z_preV hA hS hM (m_recv hA hM)) rfl rfl hl.1 rfl (lv_room (Nat.le_of_ble_eq_true rfl)) dL_law_498 ⟨hc, hs⟩) hS (fun r7 B7 H locs hw7 hM hz7 hS => ?_)
    obtain ⟨rfl, hB7⟩ := hw7
    rw [hB7] at hM
    obtain ⟨w2, hH, hM2, hF2⟩ := hM
    rw [t27_v]
    have ko2 : zK w2 o9 = 14 := (hF2.1 o9).trans k_o
    have no2 : zN w2 o9 = 1 := (hF2.2.2.1 o9).trans n_o
    refine lv_iload hx hb dL_law_501 (lv_at hl 1 rfl) ?_
    refine lv_icmp_eq (tgt := 508) hx hb dL_law_503 (by decide) (fun c_8 => ?_) (fun c_8 => absurd (rfl) c_8)
    refine lv_iload hx hb dL_law_508 (lv_at hl 1 rfl) ?_
    refine lv_if_ne (tgt := 532) hx hb dL_law_510 (by decide) (fun _ => ?_) (fun h9 => absurd h9 hcd)
    refine lv_goto (tgt := 1431) hx hb dL_law_532 (by decide) ?_
    have hl_9 : lv_has ls 7 [(0, .ref b), (1, .ref x), (2, .ref y), (3, .ref o9), (4, .int (nI k))] := lv_sub hl [2, 3, 4, 5, 6] rfl
    exact kk w2 _ _ _ _ ⟨Rep_mFr (Rep_27 hRep _) hF2, hM2, mJ_27 hJ _, ko2, no2⟩ hH hS hl_9
set_option maxHeartbeats 4000000 in
set_option maxRecDepth 100000 in
theorem law_regime {p : Program} {e : Env} {s : State} {m : MethodId} {below : List Frame} {meth : Method} {c : Code} {H : Heap} {locs : List Loc} {cells slots : Nat} {ls : Array Slot} (l : Launch) (hl9 : l.stackTraces = false) {D : va_G} {cy : Nat → ClassId} {b L : Nat} {xs : Nat → Int32} (hL : L ≤ 2560) (C0 : lw_At p s m meth c b L xs) (hA : zA D cy s.heap.size s) {w : zW} {x y o9 : Nat} {r : Nat → Nat} {B : mB} (hI : LI w x y o9 r B) (hH : zH D cy s.heap.size w H) (hS : va_S (fun q : Nat => s.heap.size ≤ q) s.heap H locs) {k : Nat} (hk : k + 5 ≤ L) (hl : lv_has ls 7 [(0, .ref b), (1, .ref x), (2, .ref y), (3, .ref o9), (4, .int (nI k))]) (hc : cells + 8 ≤ 601024) (hs : slots + 100 ≤ 7293034) (kk : ∀ (w1 : zW) (B1 : mB) (H1 : Heap) (locs1 : List Loc) (ls1 : Array Slot), LI w1 x y o9 r B1 → zH D cy s.heap.size w1 H1 → va_S (fun q : Nat => s.heap.size ≤ q) s.heap H1 locs1 → lv_has ls1 7 [(0, .ref b), (1, .ref x), (2, .ref y), (3, .ref o9), (4, .int (nI k))] → W p l e room_1 s m #[Value.ref b] below meth c H1 locs1 (cells + 8) (slots + 100) (lw_Z below #[Value.ref b] s) (F0 m 1431 ls1 [])) : W p l e room_1 s m #[Value.ref b] below meth c H locs cells slots (lw_Z below #[Value.ref b] s) (F0 m 535 ls []) := by
  obtain ⟨hx, hb, hr, hml, hown, hts0, hX, hbl, hlocks, hgv⟩ := id C0
  have hb : c.code = cL_law := hb
  have hown : s.vm.findClass RL = some m.cls := hown
  have hts : ∀ w ∈ wsL_law, w.before #[Value.ref b] s = true := fun w h => hts0 w (wsL_law_in w h)
  have hbA : ¬ (fun q : Nat => s.heap.size ≤ q) b := Nat.not_le.mpr hbl
  obtain ⟨hRep, hM0, hJ, k_o, n_o⟩ := hI
  refine lv_aload_n hx hb dL_law_535 rfl (lv_at hl 1 rfl) ?_
  refine lv_aload_n hx hb dL_law_536 rfl (lv_at hl 0 rfl) ?_
  refine lv_iload hx hb dL_law_537 (lv_at hl 4 rfl) ?_
  refine lv_iconst (v := 1) hx hb dL_law_539 (by decide) ?_
  refine lv_iadd hx hb dL_law_540 ?_
  refine va_sld hx hb hX hbl hbA hS (law_in (j := 1) hk hL (by decide)) dL_law_541 ?_
  refine lv_aload_n hx hb dL_law_542 rfl (lv_at hl 3 rfl) ?_
  refine z_xcalli (vx_runSX (As := [.ref x, .int (xs ((nI k) + 1).toNatClampNeg), .ref o9]) (rest := []) ⟨hx, hb, hml, hown, hts⟩ (zL_regime l hl9 D cy s.heap.size w x o9 (z2 B 27 0 0) (xs ((nI k) + 1).toNatClampNeg) k_o n_o (Rep_27 hRep 0) (mJ_27 hJ 0)) (vx_cwSW 3 hts gL_law_L_regime rfl rfl rfl (by decide +kernel) ⟨Nat.le_of_ble_eq_true rfl, Nat.le_of_ble_eq_true rfl⟩) (z_preS hA hS hH) rfl rfl hl.1 rfl (lv_room (Nat.le_of_ble_eq_true rfl)) dL_law_543 ⟨hc, hs⟩) hS (fun E9 ce9 q9 u9 H locs hw9 hH hz9 hS hce9 hv9 hcl9 => hw9.elim) (fun r9 u9 H locs hw9 hH hz9 hS => ?_)
  rcases hw9 with ⟨hcd, rfl, hRep1, hG, hJv⟩ | ⟨hcd, rfl, hu9⟩
  · rw [c27_P] at hcd
    have hGo := hG o9 (Or.inr (Or.inr (Or.inr k_o)))
    have hM : mH D cy s.heap.size u9 y r B H := ⟨u9, hH, mRep_g hM0 hG, mFr_rf u9⟩
    refine lv_istore (lv' := [(5, .int 0), (0, .ref b), (1, .ref x), (2, .ref y), (3, .ref o9), (4, .int (nI k))]) hx hb dL_law_546 hl (by decide) rfl (fun ls hl => ?_)
    refine lv_aload_n hx hb dL_law_548 rfl (lv_at hl 3 rfl) ?_
    refine lv_aload_n hx hb dL_law_549 rfl (lv_at hl 1 rfl) ?_
    refine lv_iload hx hb dL_law_550 (lv_at hl 5 rfl) ?_
    refine lv_iconst (v := 1) hx hb dL_law_552 (by decide) ?_
    refine lv_iadd hx hb dL_law_553 ?_
    refine va_sld hx hb hX hbl hbA hS (law_in (j := 1) hk hL (by decide)) dL_law_554 ?_
    refine z_calli (va_runV (As := [.int (xs ((nI k) + 1).toNatClampNeg)]) (rest := []) ⟨hx, hb, hml, hown, hts⟩ (c6_regime l D cy s.heap.size u9 y r B (xs ((nI k) + 1).toNatClampNeg) hJ.1) (cwV 1 hts gL_law_X6_regime rfl rfl rfl (by decide +kernel) ⟨Nat.le_of_ble_eq_true rfl, Nat.le_of_ble_eq_true rfl⟩) (z_preV hA hS hM (m_recv hA hM)) rfl rfl hl.1 rfl (lv_room (Nat.le_of_ble_eq_true rfl)) dL_law_555 ⟨hc, hs⟩) hS (fun r8 B8 H locs hw8 hM hz8 hS => ?_)
    rcases hw8 with ⟨-, rfl, hB8⟩ | ⟨hn8, -⟩
    rotate_left
    · exact absurd hcd hn8
    rw [hB8] at hM
    refine lv_istore (lv' := [(6, .int (an_of (z2 B 27 0 0) 6 (xs ((nI k) + 1).toNatClampNeg))), (5, .int 0), (0, .ref b), (1, .ref x), (2, .ref y), (3, .ref o9), (4, .int (nI k))]) hx hb dL_law_558 hl (by decide) rfl (fun ls hl => ?_)
    refine lv_aload_n hx hb dL_law_560 rfl (lv_at hl 4 rfl) ?_
    refine z_calli (va_runV (As := []) (rest := []) ⟨hx, hb, hml, hown, hts⟩ (c6_thrown l D cy s.heap.size u9 y r (z2 B 27 0 0)) (cwV 0 hts gL_law_X6_thrown rfl rfl rfl (by decide +kernel) ⟨Nat.le_of_ble_eq_true rfl, Nat.le_of_ble_eq_true rfl⟩) (z_preV hA hS hM (m_recv hA hM)) rfl rfl hl.1 rfl (lv_room (Nat.le_of_ble_eq_true rfl)) dL_law_561 ⟨hc, hs⟩) hS (fun r7 B7 H locs hw7 hM hz7 hS => ?_)
    obtain ⟨rfl, hB7⟩ := hw7
    rw [hB7] at hM
    obtain ⟨w2, hH, hM2, hF2⟩ := hM
    rw [t27_0]
    have ko2 : zK w2 o9 = 14 := (hF2.1 o9).trans (hGo.1.trans k_o)
    have no2 : zN w2 o9 = 1 := (hF2.2.2.1 o9).trans (hGo.2.1.trans n_o)
    refine lv_iload hx hb dL_law_564 (lv_at hl 1 rfl) ?_
    refine lv_icmp_eq (tgt := 571) hx hb dL_law_566 (by decide) (fun _ => ?_) (fun c_1 => absurd c_1 (by decide))
    refine lv_iload hx hb dL_law_571 (lv_at hl 1 rfl) ?_
    refine lv_if_ne (tgt := 588) hx hb dL_law_573 (by decide) (fun c_2 => absurd c_2 (by decide)) (fun _ => ?_)
    refine lv_aload_n hx hb dL_law_576 rfl (lv_at hl 5 rfl) ?_
    refine lv_iconst (v := 0) hx hb dL_law_577 (by decide) ?_
    refine z_jald hx hb hA hH (zk0 ko2 (by decide)) (zEn (zE_k14 ko2) no2) 0 rfl (by decide) (by decide) dL_law_578 ?_
    rw [show zJ w2 o9 0 = ((an_of (z2 B 27 0 0) 6 (xs ((nI k) + 1).toNatClampNeg))).toInt64 from (congrFun (hF2.2.2.2.2.1 o9) 0).trans hJv]
    refine lv_iload hx hb dL_law_579 (lv_at hl 0 rfl) ?_
    refine lv_i2l (v := ((an_of (z2 B 27 0 0) 6 (xs ((nI k) + 1).toNatClampNeg))).toInt64) hx hb dL_law_581 rfl ?_
    refine W.lcmp hx hb dL_law_582 ?_
    rw [lg_self]
    refine lv_if_eq (tgt := 588) hx hb dL_law_583 (by decide) (fun _ => ?_) (fun c_3 => absurd c_3 (by decide))
    refine lv_goto (tgt := 1431) hx hb dL_law_588 (by decide) ?_
    have hl_4 : lv_has ls 7 [(0, .ref b), (1, .ref x), (2, .ref y), (3, .ref o9), (4, .int (nI k))] := lv_sub hl [2, 3, 4, 5, 6] rfl
    exact kk w2 _ _ _ _ ⟨Rep_mFr hRep1 hF2, hM2, (mJ_27 hJ 0), ko2, no2⟩ hH hS hl_4
  · rw [c27_P] at hcd ⊢
    rw [hu9] at hH
    have hM : mH D cy s.heap.size w y r B H := ⟨w, hH, hM0, mFr_rf w⟩
    refine lv_istore (lv' := [(5, .int (cd_P B (xs ((nI k) + 1).toNatClampNeg))), (0, .ref b), (1, .ref x), (2, .ref y), (3, .ref o9), (4, .int (nI k))]) hx hb dL_law_546 hl (by decide) rfl (fun ls hl => ?_)
    refine lv_aload_n hx hb dL_law_548 rfl (lv_at hl 3 rfl) ?_
    refine lv_aload_n hx hb dL_law_549 rfl (lv_at hl 1 rfl) ?_
    refine lv_iload hx hb dL_law_550 (lv_at hl 5 rfl) ?_
    refine lv_iconst (v := 1) hx hb dL_law_552 (by decide) ?_
    refine lv_iadd hx hb dL_law_553 ?_
    refine va_sld hx hb hX hbl hbA hS (law_in (j := 1) hk hL (by decide)) dL_law_554 ?_
    refine z_calli (va_runV (As := [.int (xs ((nI k) + 1).toNatClampNeg)]) (rest := []) ⟨hx, hb, hml, hown, hts⟩ (c6_regime l D cy s.heap.size w y r B (xs ((nI k) + 1).toNatClampNeg) hJ.1) (cwV 1 hts gL_law_X6_regime rfl rfl rfl (by decide +kernel) ⟨Nat.le_of_ble_eq_true rfl, Nat.le_of_ble_eq_true rfl⟩) (z_preV hA hS hM (m_recv hA hM)) rfl rfl hl.1 rfl (lv_room (Nat.le_of_ble_eq_true rfl)) dL_law_555 ⟨hc, hs⟩) hS (fun r8 B8 H locs hw8 hM hz8 hS => ?_)
    rcases hw8 with ⟨hn8, -, -⟩ | ⟨-, hB8⟩
    · exact absurd hn8 hcd
    rw [hB8] at hM
    refine lv_istore (lv' := [(6, .int r8), (5, .int (cd_P B (xs ((nI k) + 1).toNatClampNeg))), (0, .ref b), (1, .ref x), (2, .ref y), (3, .ref o9), (4, .int (nI k))]) hx hb dL_law_558 hl (by decide) rfl (fun ls hl => ?_)
    refine lv_aload_n hx hb dL_law_560 rfl (lv_at hl 4 rfl) ?_
    refine z_calli (va_runV (As := []) (rest := []) ⟨hx, hb, hml, hown, hts⟩ (c6_thrown l D cy s.heap.size w y r (z2 B 27 0 (cd_P B (xs ((nI k) + 1).toNatClampNeg)))) (cwV 0 hts gL_law_X6_thrown rfl rfl rfl (by decide +kernel) ⟨Nat.le_of_ble_eq_true rfl, Nat.le_of_ble_eq_true rfl⟩) (z_preV hA hS hM (m_recv hA hM)) rfl rfl hl.1 rfl (lv_room (Nat.le_of_ble_eq_true rfl)) dL_law_561 ⟨hc, hs⟩) hS (fun r7 B7 H locs hw7 hM hz7 hS => ?_)
    obtain ⟨rfl, hB7⟩ := hw7
    rw [hB7] at hM
    obtain ⟨w2, hH, hM2, hF2⟩ := hM
    rw [t27_v]
    have ko2 : zK w2 o9 = 14 := (hF2.1 o9).trans k_o
    have no2 : zN w2 o9 = 1 := (hF2.2.2.1 o9).trans n_o
    refine lv_iload hx hb dL_law_564 (lv_at hl 1 rfl) ?_
    refine lv_icmp_eq (tgt := 571) hx hb dL_law_566 (by decide) (fun c_5 => ?_) (fun c_5 => absurd (rfl) c_5)
    refine lv_iload hx hb dL_law_571 (lv_at hl 1 rfl) ?_
    refine lv_if_ne (tgt := 588) hx hb dL_law_573 (by decide) (fun _ => ?_) (fun h9 => absurd h9 hcd)
    refine lv_goto (tgt := 1431) hx hb dL_law_588 (by decide) ?_
    have hl_6 : lv_has ls 7 [(0, .ref b), (1, .ref x), (2, .ref y), (3, .ref o9), (4, .int (nI k))] := lv_sub hl [2, 3, 4, 5, 6] rfl
    exact kk w2 _ _ _ _ ⟨Rep_mFr (Rep_27 hRep _) hF2, hM2, mJ_27 hJ _, ko2, no2⟩ hH hS hl_6
set_option maxHeartbeats 4000000 in
set_option maxRecDepth 100000 in
theorem law_papers {p : Program} {e : Env} {s : State} {m : MethodId} {below : List Frame} {meth : Method} {c : Code} {H : Heap} {locs : List Loc} {cells slots : Nat} {ls : Array Slot} (l : Launch) (hl9 : l.stackTraces = false) {D : va_G} {cy : Nat → ClassId} {b L : Nat} {xs : Nat → Int32} (hL : L ≤ 2560) (C0 : lw_At p s m meth c b L xs) (hA : zA D cy s.heap.size s) {w : zW} {x y o9 : Nat} {r : Nat → Nat} {B : mB} (hI : LI w x y o9 r B) (hH : zH D cy s.heap.size w H) (hS : va_S (fun q : Nat => s.heap.size ≤ q) s.heap H locs) {k : Nat} (hk : k + 5 ≤ L) (hl : lv_has ls 7 [(0, .ref b), (1, .ref x), (2, .ref y), (3, .ref o9), (4, .int (nI k))]) (hc : cells + 8 ≤ 601024) (hs : slots + 100 ≤ 7293034) (kk : ∀ (w1 : zW) (B1 : mB) (H1 : Heap) (locs1 : List Loc) (ls1 : Array Slot), LI w1 x y o9 r B1 → zH D cy s.heap.size w1 H1 → va_S (fun q : Nat => s.heap.size ≤ q) s.heap H1 locs1 → lv_has ls1 7 [(0, .ref b), (1, .ref x), (2, .ref y), (3, .ref o9), (4, .int (nI k))] → W p l e room_1 s m #[Value.ref b] below meth c H1 locs1 (cells + 8) (slots + 100) (lw_Z below #[Value.ref b] s) (F0 m 1431 ls1 [])) : W p l e room_1 s m #[Value.ref b] below meth c H locs cells slots (lw_Z below #[Value.ref b] s) (F0 m 591 ls []) := by
  obtain ⟨hx, hb, hr, hml, hown, hts0, hX, hbl, hlocks, hgv⟩ := id C0
  have hb : c.code = cL_law := hb
  have hown : s.vm.findClass RL = some m.cls := hown
  have hts : ∀ w ∈ wsL_law, w.before #[Value.ref b] s = true := fun w h => hts0 w (wsL_law_in w h)
  have hbA : ¬ (fun q : Nat => s.heap.size ≤ q) b := Nat.not_le.mpr hbl
  obtain ⟨hRep, hM0, hJ, k_o, n_o⟩ := hI
  refine lv_aload_n hx hb dL_law_591 rfl (lv_at hl 1 rfl) ?_
  refine lv_aload_n hx hb dL_law_592 rfl (lv_at hl 0 rfl) ?_
  refine lv_iload hx hb dL_law_593 (lv_at hl 4 rfl) ?_
  refine lv_iconst (v := 1) hx hb dL_law_595 (by decide) ?_
  refine lv_iadd hx hb dL_law_596 ?_
  refine va_sld hx hb hX hbl hbA hS (law_in (j := 1) hk hL (by decide)) dL_law_597 ?_
  refine lv_aload_n hx hb dL_law_598 rfl (lv_at hl 0 rfl) ?_
  refine lv_iload hx hb dL_law_599 (lv_at hl 4 rfl) ?_
  refine lv_iconst (v := 2) hx hb dL_law_601 (by decide) ?_
  refine lv_iadd hx hb dL_law_602 ?_
  refine va_sld hx hb hX hbl hbA hS (law_in (j := 2) hk hL (by decide)) dL_law_603 ?_
  refine lv_if_eq (tgt := 611) hx hb dL_law_604 (by decide) (fun c_1 => ?_) (fun c_1 => ?_)
  · refine lv_iconst (v := 0) hx hb dL_law_611 (by decide) ?_
    refine lv_aload_n hx hb dL_law_612 rfl (lv_at hl 3 rfl) ?_
    refine z_xcalli (vx_runSX (As := [.ref x, .int (xs ((nI k) + 1).toNatClampNeg), .int 0, .ref o9]) (rest := []) ⟨hx, hb, hml, hown, hts⟩ (zL_papers l hl9 D cy s.heap.size w x o9 (z2 B 27 0 0) (xs ((nI k) + 1).toNatClampNeg) 0 k_o n_o (Rep_27 hRep 0) (mJ_27 hJ 0)) (vx_cwSW 4 hts gL_law_L_papers rfl rfl rfl (by decide +kernel) ⟨Nat.le_of_ble_eq_true rfl, Nat.le_of_ble_eq_true rfl⟩) (z_preS hA hS hH) rfl rfl hl.1 rfl (lv_room (Nat.le_of_ble_eq_true rfl)) dL_law_613 ⟨hc, hs⟩) hS (fun E9 ce9 q9 u9 H locs hw9 hH hz9 hS hce9 hv9 hcl9 => hw9.elim) (fun r9 u9 H locs hw9 hH hz9 hS => ?_)
    rcases hw9 with ⟨hcd, rfl, hRep1, hG, hJv⟩ | ⟨hcd, rfl, hu9⟩
    · rw [c27_P] at hcd
      have hGo := hG o9 (Or.inr (Or.inr (Or.inr k_o)))
      have hM : mH D cy s.heap.size u9 y r B H := ⟨u9, hH, mRep_g hM0 hG, mFr_rf u9⟩
      refine lv_istore (lv' := [(5, .int 0), (0, .ref b), (1, .ref x), (2, .ref y), (3, .ref o9), (4, .int (nI k))]) hx hb dL_law_616 hl (by decide) rfl (fun ls hl => ?_)
      refine lv_aload_n hx hb dL_law_618 rfl (lv_at hl 3 rfl) ?_
      refine lv_aload_n hx hb dL_law_619 rfl (lv_at hl 1 rfl) ?_
      refine lv_iload hx hb dL_law_620 (lv_at hl 5 rfl) ?_
      refine lv_iconst (v := 1) hx hb dL_law_622 (by decide) ?_
      refine lv_iadd hx hb dL_law_623 ?_
      refine va_sld hx hb hX hbl hbA hS (law_in (j := 1) hk hL (by decide)) dL_law_624 ?_
      refine lv_aload_n hx hb dL_law_625 rfl (lv_at hl 1 rfl) ?_
      refine lv_iload hx hb dL_law_626 (lv_at hl 5 rfl) ?_
      refine lv_iconst (v := 2) hx hb dL_law_628 (by decide) ?_
      refine lv_iadd hx hb dL_law_629 ?_
      refine va_sld hx hb hX hbl hbA hS (law_in (j := 2) hk hL (by decide)) dL_law_630 ?_
      refine lv_if_eq (tgt := 638) hx hb dL_law_631 (by decide) (fun c_2 => ?_) (fun c_2 => absurd (c_1) c_2)
      refine lv_iconst (v := 0) hx hb dL_law_638 (by decide) ?_
      refine z_calli (va_runV (As := [.int (xs ((nI k) + 1).toNatClampNeg), .int 0]) (rest := []) ⟨hx, hb, hml, hown, hts⟩ (c6_papers l D cy s.heap.size u9 y r B (xs ((nI k) + 1).toNatClampNeg) 0 hJ.1) (cwV 2 hts gL_law_X6_papers rfl rfl rfl (by decide +kernel) ⟨Nat.le_of_ble_eq_true rfl, Nat.le_of_ble_eq_true rfl⟩) (z_preV hA hS hM (m_recv hA hM)) rfl rfl hl.1 rfl (lv_room (Nat.le_of_ble_eq_true rfl)) dL_law_639 ⟨hc, hs⟩) hS (fun r8 B8 H locs hw8 hM hz8 hS => ?_)
      rcases hw8 with ⟨-, rfl, hB8⟩ | ⟨hn8, -⟩
      rotate_left
      · exact absurd hcd hn8
      rw [hB8] at hM
      refine lv_istore (lv' := [(6, .int (an_papers (z2 B 27 0 0) (xs ((nI k) + 1).toNatClampNeg) 0)), (5, .int 0), (0, .ref b), (1, .ref x), (2, .ref y), (3, .ref o9), (4, .int (nI k))]) hx hb dL_law_642 hl (by decide) rfl (fun ls hl => ?_)
      refine lv_aload_n hx hb dL_law_644 rfl (lv_at hl 4 rfl) ?_
      refine z_calli (va_runV (As := []) (rest := []) ⟨hx, hb, hml, hown, hts⟩ (c6_thrown l D cy s.heap.size u9 y r (z2 B 27 0 0)) (cwV 0 hts gL_law_X6_thrown rfl rfl rfl (by decide +kernel) ⟨Nat.le_of_ble_eq_true rfl, Nat.le_of_ble_eq_true rfl⟩) (z_preV hA hS hM (m_recv hA hM)) rfl rfl hl.1 rfl (lv_room (Nat.le_of_ble_eq_true rfl)) dL_law_645 ⟨hc, hs⟩) hS (fun r7 B7 H locs hw7 hM hz7 hS => ?_)
      obtain ⟨rfl, hB7⟩ := hw7
      rw [hB7] at hM
      obtain ⟨w2, hH, hM2, hF2⟩ := hM
      rw [t27_0]
      have ko2 : zK w2 o9 = 14 := (hF2.1 o9).trans (hGo.1.trans k_o)
      have no2 : zN w2 o9 = 1 := (hF2.2.2.1 o9).trans (hGo.2.1.trans n_o)
      refine lv_iload hx hb dL_law_648 (lv_at hl 1 rfl) ?_
      refine lv_icmp_eq (tgt := 655) hx hb dL_law_650 (by decide) (fun _ => ?_) (fun c_3 => absurd c_3 (by decide))
      refine lv_iload hx hb dL_law_655 (lv_at hl 1 rfl) ?_
      refine lv_if_ne (tgt := 672) hx hb dL_law_657 (by decide) (fun c_4 => absurd c_4 (by decide)) (fun _ => ?_)
      refine lv_aload_n hx hb dL_law_660 rfl (lv_at hl 5 rfl) ?_
      refine lv_iconst (v := 0) hx hb dL_law_661 (by decide) ?_
      refine z_jald hx hb hA hH (zk0 ko2 (by decide)) (zEn (zE_k14 ko2) no2) 0 rfl (by decide) (by decide) dL_law_662 ?_
      rw [show zJ w2 o9 0 = ((an_papers (z2 B 27 0 0) (xs ((nI k) + 1).toNatClampNeg) 0)).toInt64 from (congrFun (hF2.2.2.2.2.1 o9) 0).trans hJv]
      refine lv_iload hx hb dL_law_663 (lv_at hl 0 rfl) ?_
      refine lv_i2l (v := ((an_papers (z2 B 27 0 0) (xs ((nI k) + 1).toNatClampNeg) 0)).toInt64) hx hb dL_law_665 rfl ?_
      refine W.lcmp hx hb dL_law_666 ?_
      rw [lg_self]
      refine lv_if_eq (tgt := 672) hx hb dL_law_667 (by decide) (fun _ => ?_) (fun c_5 => absurd c_5 (by decide))
      refine lv_goto (tgt := 1431) hx hb dL_law_672 (by decide) ?_
      have hl_6 : lv_has ls 7 [(0, .ref b), (1, .ref x), (2, .ref y), (3, .ref o9), (4, .int (nI k))] := lv_sub hl [2, 3, 4, 5, 6] rfl
      exact kk w2 _ _ _ _ ⟨Rep_mFr hRep1 hF2, hM2, (mJ_27 hJ 0), ko2, no2⟩ hH hS hl_6
    · rw [c27_P] at hcd ⊢
      rw [hu9] at hH
      have hM : mH D cy s.heap.size w y r B H := ⟨w, hH, hM0, mFr_rf w⟩
      refine lv_istore (lv' := [(5, .int (cd_P B (xs ((nI k) + 1).toNatClampNeg))), (0, .ref b), (1, .ref x), (2, .ref y), (3, .ref o9), (4, .int (nI k))]) hx hb dL_law_616 hl (by decide) rfl (fun ls hl => ?_)
      refine lv_aload_n hx hb dL_law_618 rfl (lv_at hl 3 rfl) ?_
      refine lv_aload_n hx hb dL_law_619 rfl (lv_at hl 1 rfl) ?_
      refine lv_iload hx hb dL_law_620 (lv_at hl 5 rfl) ?_
      refine lv_iconst (v := 1) hx hb dL_law_622 (by decide) ?_
      refine lv_iadd hx hb dL_law_623 ?_
      refine va_sld hx hb hX hbl hbA hS (law_in (j := 1) hk hL (by decide)) dL_law_624 ?_
      refine lv_aload_n hx hb dL_law_625 rfl (lv_at hl 1 rfl) ?_
      refine lv_iload hx hb dL_law_626 (lv_at hl 5 rfl) ?_
      refine lv_iconst (v := 2) hx hb dL_law_628 (by decide) ?_
      refine lv_iadd hx hb dL_law_629 ?_
      refine va_sld hx hb hX hbl hbA hS (law_in (j := 2) hk hL (by decide)) dL_law_630 ?_
      refine lv_if_eq (tgt := 638) hx hb dL_law_631 (by decide) (fun c_7 => ?_) (fun c_7 => absurd (c_1) c_7)
      refine lv_iconst (v := 0) hx hb dL_law_638 (by decide) ?_
      refine z_calli (va_runV (As := [.int (xs ((nI k) + 1).toNatClampNeg), .int 0]) (rest := []) ⟨hx, hb, hml, hown, hts⟩ (c6_papers l D cy s.heap.size w y r B (xs ((nI k) + 1).toNatClampNeg) 0 hJ.1) (cwV 2 hts gL_law_X6_papers rfl rfl rfl (by decide +kernel) ⟨Nat.le_of_ble_eq_true rfl, Nat.le_of_ble_eq_true rfl⟩) (z_preV hA hS hM (m_recv hA hM)) rfl rfl hl.1 rfl (lv_room (Nat.le_of_ble_eq_true rfl)) dL_law_639 ⟨hc, hs⟩) hS (fun r8 B8 H locs hw8 hM hz8 hS => ?_)
      rcases hw8 with ⟨hn8, -, -⟩ | ⟨-, hB8⟩
      · exact absurd hn8 hcd
      rw [hB8] at hM
      refine lv_istore (lv' := [(6, .int r8), (5, .int (cd_P B (xs ((nI k) + 1).toNatClampNeg))), (0, .ref b), (1, .ref x), (2, .ref y), (3, .ref o9), (4, .int (nI k))]) hx hb dL_law_642 hl (by decide) rfl (fun ls hl => ?_)
      refine lv_aload_n hx hb dL_law_644 rfl (lv_at hl 4 rfl) ?_
      refine z_calli (va_runV (As := []) (rest := []) ⟨hx, hb, hml, hown, hts⟩ (c6_thrown l D cy s.heap.size w y r (z2 B 27 0 (cd_P B (xs ((nI k) + 1).toNatClampNeg)))) (cwV 0 hts gL_law_X6_thrown rfl rfl rfl (by decide +kernel) ⟨Nat.le_of_ble_eq_true rfl, Nat.le_of_ble_eq_true rfl⟩) (z_preV hA hS hM (m_recv hA hM)) rfl rfl hl.1 rfl (lv_room (Nat.le_of_ble_eq_true rfl)) dL_law_645 ⟨hc, hs⟩) hS (fun r7 B7 H locs hw7 hM hz7 hS => ?_)
      obtain ⟨rfl, hB7⟩ := hw7
      rw [hB7] at hM
      obtain ⟨w2, hH, hM2, hF2⟩ := hM
      rw [t27_v]
      have ko2 : zK w2 o9 = 14 := (hF2.1 o9).trans k_o
      have no2 : zN w2 o9 = 1 := (hF2.2.2.1 o9).trans n_o
      refine lv_iload hx hb dL_law_648 (lv_at hl 1 rfl) ?_
      refine lv_icmp_eq (tgt := 655) hx hb dL_law_650 (by decide) (fun c_8 => ?_) (fun c_8 => absurd (rfl) c_8)
      refine lv_iload hx hb dL_law_655 (lv_at hl 1 rfl) ?_
      refine lv_if_ne (tgt := 672) hx hb dL_law_657 (by decide) (fun _ => ?_) (fun h9 => absurd h9 hcd)
      refine lv_goto (tgt := 1431) hx hb dL_law_672 (by decide) ?_
      have hl_9 : lv_has ls 7 [(0, .ref b), (1, .ref x), (2, .ref y), (3, .ref o9), (4, .int (nI k))] := lv_sub hl [2, 3, 4, 5, 6] rfl
      exact kk w2 _ _ _ _ ⟨Rep_mFr (Rep_27 hRep _) hF2, hM2, mJ_27 hJ _, ko2, no2⟩ hH hS hl_9
  · refine lv_iconst (v := 1) hx hb dL_law_607 (by decide) ?_
    refine lv_goto (tgt := 612) hx hb dL_law_608 (by decide) ?_
    refine lv_aload_n hx hb dL_law_612 rfl (lv_at hl 3 rfl) ?_
    refine z_xcalli (vx_runSX (As := [.ref x, .int (xs ((nI k) + 1).toNatClampNeg), .int 1, .ref o9]) (rest := []) ⟨hx, hb, hml, hown, hts⟩ (zL_papers l hl9 D cy s.heap.size w x o9 (z2 B 27 0 0) (xs ((nI k) + 1).toNatClampNeg) 1 k_o n_o (Rep_27 hRep 0) (mJ_27 hJ 0)) (vx_cwSW 4 hts gL_law_L_papers rfl rfl rfl (by decide +kernel) ⟨Nat.le_of_ble_eq_true rfl, Nat.le_of_ble_eq_true rfl⟩) (z_preS hA hS hH) rfl rfl hl.1 rfl (lv_room (Nat.le_of_ble_eq_true rfl)) dL_law_613 ⟨hc, hs⟩) hS (fun E9 ce9 q9 u9 H locs hw9 hH hz9 hS hce9 hv9 hcl9 => hw9.elim) (fun r9 u9 H locs hw9 hH hz9 hS => ?_)
    rcases hw9 with ⟨hcd, rfl, hRep1, hG, hJv⟩ | ⟨hcd, rfl, hu9⟩
    · rw [c27_P] at hcd
      have hGo := hG o9 (Or.inr (Or.inr (Or.inr k_o)))
      have hM : mH D cy s.heap.size u9 y r B H := ⟨u9, hH, mRep_g hM0 hG, mFr_rf u9⟩
      refine lv_istore (lv' := [(5, .int 0), (0, .ref b), (1, .ref x), (2, .ref y), (3, .ref o9), (4, .int (nI k))]) hx hb dL_law_616 hl (by decide) rfl (fun ls hl => ?_)
      refine lv_aload_n hx hb dL_law_618 rfl (lv_at hl 3 rfl) ?_
      refine lv_aload_n hx hb dL_law_619 rfl (lv_at hl 1 rfl) ?_
      refine lv_iload hx hb dL_law_620 (lv_at hl 5 rfl) ?_
      refine lv_iconst (v := 1) hx hb dL_law_622 (by decide) ?_
      refine lv_iadd hx hb dL_law_623 ?_
      refine va_sld hx hb hX hbl hbA hS (law_in (j := 1) hk hL (by decide)) dL_law_624 ?_
      refine lv_aload_n hx hb dL_law_625 rfl (lv_at hl 1 rfl) ?_
      refine lv_iload hx hb dL_law_626 (lv_at hl 5 rfl) ?_
      refine lv_iconst (v := 2) hx hb dL_law_628 (by decide) ?_
      refine lv_iadd hx hb dL_law_629 ?_
      refine va_sld hx hb hX hbl hbA hS (law_in (j := 2) hk hL (by decide)) dL_law_630 ?_
      refine lv_if_eq (tgt := 638) hx hb dL_law_631 (by decide) (fun c_10 => absurd c_10 (c_1)) (fun c_10 => ?_)
      refine lv_iconst (v := 1) hx hb dL_law_634 (by decide) ?_
      refine lv_goto (tgt := 639) hx hb dL_law_635 (by decide) ?_
      refine z_calli (va_runV (As := [.int (xs ((nI k) + 1).toNatClampNeg), .int 1]) (rest := []) ⟨hx, hb, hml, hown, hts⟩ (c6_papers l D cy s.heap.size u9 y r B (xs ((nI k) + 1).toNatClampNeg) 1 hJ.1) (cwV 2 hts gL_law_X6_papers rfl rfl rfl (by decide +kernel) ⟨Nat.le_of_ble_eq_true rfl, Nat.le_of_ble_eq_true rfl⟩) (z_preV hA hS hM (m_recv hA hM)) rfl rfl hl.1 rfl (lv_room (Nat.le_of_ble_eq_true rfl)) dL_law_639 ⟨hc, hs⟩) hS (fun r8 B8 H locs hw8 hM hz8 hS => ?_)
      rcases hw8 with ⟨-, rfl, hB8⟩ | ⟨hn8, -⟩
      rotate_left
      · exact absurd hcd hn8
      rw [hB8] at hM
      refine lv_istore (lv' := [(6, .int (an_papers (z2 B 27 0 0) (xs ((nI k) + 1).toNatClampNeg) 1)), (5, .int 0), (0, .ref b), (1, .ref x), (2, .ref y), (3, .ref o9), (4, .int (nI k))]) hx hb dL_law_642 hl (by decide) rfl (fun ls hl => ?_)
      refine lv_aload_n hx hb dL_law_644 rfl (lv_at hl 4 rfl) ?_
      refine z_calli (va_runV (As := []) (rest := []) ⟨hx, hb, hml, hown, hts⟩ (c6_thrown l D cy s.heap.size u9 y r (z2 B 27 0 0)) (cwV 0 hts gL_law_X6_thrown rfl rfl rfl (by decide +kernel) ⟨Nat.le_of_ble_eq_true rfl, Nat.le_of_ble_eq_true rfl⟩) (z_preV hA hS hM (m_recv hA hM)) rfl rfl hl.1 rfl (lv_room (Nat.le_of_ble_eq_true rfl)) dL_law_645 ⟨hc, hs⟩) hS (fun r7 B7 H locs hw7 hM hz7 hS => ?_)
      obtain ⟨rfl, hB7⟩ := hw7
      rw [hB7] at hM
      obtain ⟨w2, hH, hM2, hF2⟩ := hM
      rw [t27_0]
      have ko2 : zK w2 o9 = 14 := (hF2.1 o9).trans (hGo.1.trans k_o)
      have no2 : zN w2 o9 = 1 := (hF2.2.2.1 o9).trans (hGo.2.1.trans n_o)
      refine lv_iload hx hb dL_law_648 (lv_at hl 1 rfl) ?_
      refine lv_icmp_eq (tgt := 655) hx hb dL_law_650 (by decide) (fun _ => ?_) (fun c_11 => absurd c_11 (by decide))
      refine lv_iload hx hb dL_law_655 (lv_at hl 1 rfl) ?_
      refine lv_if_ne (tgt := 672) hx hb dL_law_657 (by decide) (fun c_12 => absurd c_12 (by decide)) (fun _ => ?_)
      refine lv_aload_n hx hb dL_law_660 rfl (lv_at hl 5 rfl) ?_
      refine lv_iconst (v := 0) hx hb dL_law_661 (by decide) ?_
      refine z_jald hx hb hA hH (zk0 ko2 (by decide)) (zEn (zE_k14 ko2) no2) 0 rfl (by decide) (by decide) dL_law_662 ?_
      rw [show zJ w2 o9 0 = ((an_papers (z2 B 27 0 0) (xs ((nI k) + 1).toNatClampNeg) 1)).toInt64 from (congrFun (hF2.2.2.2.2.1 o9) 0).trans hJv]
      refine lv_iload hx hb dL_law_663 (lv_at hl 0 rfl) ?_
      refine lv_i2l (v := ((an_papers (z2 B 27 0 0) (xs ((nI k) + 1).toNatClampNeg) 1)).toInt64) hx hb dL_law_665 rfl ?_
      refine W.lcmp hx hb dL_law_666 ?_
      rw [lg_self]
      refine lv_if_eq (tgt := 672) hx hb dL_law_667 (by decide) (fun _ => ?_) (fun c_13 => absurd c_13 (by decide))
      refine lv_goto (tgt := 1431) hx hb dL_law_672 (by decide) ?_
      have hl_14 : lv_has ls 7 [(0, .ref b), (1, .ref x), (2, .ref y), (3, .ref o9), (4, .int (nI k))] := lv_sub hl [2, 3, 4, 5, 6] rfl
      exact kk w2 _ _ _ _ ⟨Rep_mFr hRep1 hF2, hM2, (mJ_27 hJ 0), ko2, no2⟩ hH hS hl_14
    · rw [c27_P] at hcd ⊢
      rw [hu9] at hH
      have hM : mH D cy s.heap.size w y r B H := ⟨w, hH, hM0, mFr_rf w⟩
      refine lv_istore (lv' := [(5, .int (cd_P B (xs ((nI k) + 1).toNatClampNeg))), (0, .ref b), (1, .ref x), (2, .ref y), (3, .ref o9), (4, .int (nI k))]) hx hb dL_law_616 hl (by decide) rfl (fun ls hl => ?_)
      refine lv_aload_n hx hb dL_law_618 rfl (lv_at hl 3 rfl) ?_
      refine lv_aload_n hx hb dL_law_619 rfl (lv_at hl 1 rfl) ?_
      refine lv_iload hx hb dL_law_620 (lv_at hl 5 rfl) ?_
      refine lv_iconst (v := 1) hx hb dL_law_622 (by decide) ?_
      refine lv_iadd hx hb dL_law_623 ?_
      refine va_sld hx hb hX hbl hbA hS (law_in (j := 1) hk hL (by decide)) dL_law_624 ?_
      refine lv_aload_n hx hb dL_law_625 rfl (lv_at hl 1 rfl) ?_
      refine lv_iload hx hb dL_law_626 (lv_at hl 5 rfl) ?_
      refine lv_iconst (v := 2) hx hb dL_law_628 (by decide) ?_
      refine lv_iadd hx hb dL_law_629 ?_
      refine va_sld hx hb hX hbl hbA hS (law_in (j := 2) hk hL (by decide)) dL_law_630 ?_
      refine lv_if_eq (tgt := 638) hx hb dL_law_631 (by decide) (fun c_15 => absurd c_15 (c_1)) (fun c_15 => ?_)
      refine lv_iconst (v := 1) hx hb dL_law_634 (by decide) ?_
      refine lv_goto (tgt := 639) hx hb dL_law_635 (by decide) ?_
      refine z_calli (va_runV (As := [.int (xs ((nI k) + 1).toNatClampNeg), .int 1]) (rest := []) ⟨hx, hb, hml, hown, hts⟩ (c6_papers l D cy s.heap.size w y r B (xs ((nI k) + 1).toNatClampNeg) 1 hJ.1) (cwV 2 hts gL_law_X6_papers rfl rfl rfl (by decide +kernel) ⟨Nat.le_of_ble_eq_true rfl, Nat.le_of_ble_eq_true rfl⟩) (z_preV hA hS hM (m_recv hA hM)) rfl rfl hl.1 rfl (lv_room (Nat.le_of_ble_eq_true rfl)) dL_law_639 ⟨hc, hs⟩) hS (fun r8 B8 H locs hw8 hM hz8 hS => ?_)
      rcases hw8 with ⟨hn8, -, -⟩ | ⟨-, hB8⟩
      · exact absurd hn8 hcd
      rw [hB8] at hM
      refine lv_istore (lv' := [(6, .int r8), (5, .int (cd_P B (xs ((nI k) + 1).toNatClampNeg))), (0, .ref b), (1, .ref x), (2, .ref y), (3, .ref o9), (4, .int (nI k))]) hx hb dL_law_642 hl (by decide) rfl (fun ls hl => ?_)
      refine lv_aload_n hx hb dL_law_644 rfl (lv_at hl 4 rfl) ?_
      refine z_calli (va_runV (As := []) (rest := []) ⟨hx, hb, hml, hown, hts⟩ (c6_thrown l D cy s.heap.size w y r (z2 B 27 0 (cd_P B (xs ((nI k) + 1).toNatClampNeg)))) (cwV 0 hts gL_law_X6_thrown rfl rfl rfl (by decide +kernel) ⟨Nat.le_of_ble_eq_true rfl, Nat.le_of_ble_eq_true rfl⟩) (z_preV hA hS hM (m_recv hA hM)) rfl rfl hl.1 rfl (lv_room (Nat.le_of_ble_eq_true rfl)) dL_law_645 ⟨hc, hs⟩) hS (fun r7 B7 H locs hw7 hM hz7 hS => ?_)
      obtain ⟨rfl, hB7⟩ := hw7
      rw [hB7] at hM
      obtain ⟨w2, hH, hM2, hF2⟩ := hM
      rw [t27_v]
      have ko2 : zK w2 o9 = 14 := (hF2.1 o9).trans k_o
      have no2 : zN w2 o9 = 1 := (hF2.2.2.1 o9).trans n_o
      refine lv_iload hx hb dL_law_648 (lv_at hl 1 rfl) ?_
      refine lv_icmp_eq (tgt := 655) hx hb dL_law_650 (by decide) (fun c_16 => ?_) (fun c_16 => absurd (rfl) c_16)
      refine lv_iload hx hb dL_law_655 (lv_at hl 1 rfl) ?_
      refine lv_if_ne (tgt := 672) hx hb dL_law_657 (by decide) (fun _ => ?_) (fun h9 => absurd h9 hcd)
      refine lv_goto (tgt := 1431) hx hb dL_law_672 (by decide) ?_
      have hl_17 : lv_has ls 7 [(0, .ref b), (1, .ref x), (2, .ref y), (3, .ref o9), (4, .int (nI k))] := lv_sub hl [2, 3, 4, 5, 6] rfl
      exact kk w2 _ _ _ _ ⟨Rep_mFr (Rep_27 hRep _) hF2, hM2, mJ_27 hJ _, ko2, no2⟩ hH hS hl_17
set_option maxHeartbeats 4000000 in
set_option maxRecDepth 100000 in
theorem law_setTools {p : Program} {e : Env} {s : State} {m : MethodId} {below : List Frame} {meth : Method} {c : Code} {H : Heap} {locs : List Loc} {cells slots : Nat} {ls : Array Slot} (l : Launch) (hl9 : l.stackTraces = false) {D : va_G} {cy : Nat → ClassId} {b L : Nat} {xs : Nat → Int32} (hL : L ≤ 2560) (C0 : lw_At p s m meth c b L xs) (hA : zA D cy s.heap.size s) {w : zW} {x y o9 : Nat} {r : Nat → Nat} {B : mB} (hI : LI w x y o9 r B) (hH : zH D cy s.heap.size w H) (hS : va_S (fun q : Nat => s.heap.size ≤ q) s.heap H locs) {k : Nat} (hk : k + 5 ≤ L) (hl : lv_has ls 7 [(0, .ref b), (1, .ref x), (2, .ref y), (3, .ref o9), (4, .int (nI k))]) (hc : cells + 8 ≤ 601024) (hs : slots + 100 ≤ 7293034) (kk : ∀ (w1 : zW) (B1 : mB) (H1 : Heap) (locs1 : List Loc) (ls1 : Array Slot), LI w1 x y o9 r B1 → zH D cy s.heap.size w1 H1 → va_S (fun q : Nat => s.heap.size ≤ q) s.heap H1 locs1 → lv_has ls1 7 [(0, .ref b), (1, .ref x), (2, .ref y), (3, .ref o9), (4, .int (nI k))] → W p l e room_1 s m #[Value.ref b] below meth c H1 locs1 (cells + 8) (slots + 100) (lw_Z below #[Value.ref b] s) (F0 m 1431 ls1 [])) : W p l e room_1 s m #[Value.ref b] below meth c H locs cells slots (lw_Z below #[Value.ref b] s) (F0 m 675 ls []) := by
  obtain ⟨hx, hb, hr, hml, hown, hts0, hX, hbl, hlocks, hgv⟩ := id C0
  have hb : c.code = cL_law := hb
  have hown : s.vm.findClass RL = some m.cls := hown
  have hts : ∀ w ∈ wsL_law, w.before #[Value.ref b] s = true := fun w h => hts0 w (wsL_law_in w h)
  have hbA : ¬ (fun q : Nat => s.heap.size ≤ q) b := Nat.not_le.mpr hbl
  obtain ⟨hRep, hM0, hJ, k_o, n_o⟩ := hI
  refine lv_aload_n hx hb dL_law_675 rfl (lv_at hl 1 rfl) ?_
  refine lv_aload_n hx hb dL_law_676 rfl (lv_at hl 0 rfl) ?_
  refine lv_iload hx hb dL_law_677 (lv_at hl 4 rfl) ?_
  refine lv_iconst (v := 1) hx hb dL_law_679 (by decide) ?_
  refine lv_iadd hx hb dL_law_680 ?_
  refine va_sld hx hb hX hbl hbA hS (law_in (j := 1) hk hL (by decide)) dL_law_681 ?_
  refine lv_aload_n hx hb dL_law_682 rfl (lv_at hl 0 rfl) ?_
  refine lv_iload hx hb dL_law_683 (lv_at hl 4 rfl) ?_
  refine lv_iconst (v := 2) hx hb dL_law_685 (by decide) ?_
  refine lv_iadd hx hb dL_law_686 ?_
  refine va_sld hx hb hX hbl hbA hS (law_in (j := 2) hk hL (by decide)) dL_law_687 ?_
  refine lv_aload_n hx hb dL_law_688 rfl (lv_at hl 3 rfl) ?_
  refine z_xcalli (vx_runSX (As := [.ref x, .int (xs ((nI k) + 1).toNatClampNeg), .int (xs ((nI k) + 2).toNatClampNeg), .ref o9]) (rest := []) ⟨hx, hb, hml, hown, hts⟩ (zL_setTools l hl9 D cy s.heap.size w x o9 (z2 B 27 0 0) (xs ((nI k) + 1).toNatClampNeg) (xs ((nI k) + 2).toNatClampNeg) k_o n_o (Rep_27 hRep 0) (mJ_27 hJ 0)) (vx_cwSW 4 hts gL_law_L_setTools rfl rfl rfl (by decide +kernel) ⟨Nat.le_of_ble_eq_true rfl, Nat.le_of_ble_eq_true rfl⟩) (z_preS hA hS hH) rfl rfl hl.1 rfl (lv_room (Nat.le_of_ble_eq_true rfl)) dL_law_689 ⟨hc, hs⟩) hS (fun E9 ce9 q9 u9 H locs hw9 hH hz9 hS hce9 hv9 hcl9 => hw9.elim) (fun r9 u9 H locs hw9 hH hz9 hS => ?_)
  rcases hw9 with ⟨hcd, rfl, hRep1, hG, hJv⟩ | ⟨hcd, rfl, hu9⟩
  · rw [c27_setTools] at hcd
    have hGo := hG o9 (Or.inr (Or.inr (Or.inr k_o)))
    have hM : mH D cy s.heap.size u9 y r B H := ⟨u9, hH, mRep_g hM0 hG, mFr_rf u9⟩
    refine lv_istore (lv' := [(5, .int 0), (0, .ref b), (1, .ref x), (2, .ref y), (3, .ref o9), (4, .int (nI k))]) hx hb dL_law_692 hl (by decide) rfl (fun ls hl => ?_)
    refine lv_aload_n hx hb dL_law_694 rfl (lv_at hl 3 rfl) ?_
    refine lv_aload_n hx hb dL_law_695 rfl (lv_at hl 1 rfl) ?_
    refine lv_iload hx hb dL_law_696 (lv_at hl 5 rfl) ?_
    refine lv_iconst (v := 1) hx hb dL_law_698 (by decide) ?_
    refine lv_iadd hx hb dL_law_699 ?_
    refine va_sld hx hb hX hbl hbA hS (law_in (j := 1) hk hL (by decide)) dL_law_700 ?_
    refine lv_aload_n hx hb dL_law_701 rfl (lv_at hl 1 rfl) ?_
    refine lv_iload hx hb dL_law_702 (lv_at hl 5 rfl) ?_
    refine lv_iconst (v := 2) hx hb dL_law_704 (by decide) ?_
    refine lv_iadd hx hb dL_law_705 ?_
    refine va_sld hx hb hX hbl hbA hS (law_in (j := 2) hk hL (by decide)) dL_law_706 ?_
    refine z_calli (va_runV (As := [.int (xs ((nI k) + 1).toNatClampNeg), .int (xs ((nI k) + 2).toNatClampNeg)]) (rest := []) ⟨hx, hb, hml, hown, hts⟩ (c6_setTools l D cy s.heap.size u9 y r B (xs ((nI k) + 1).toNatClampNeg) (xs ((nI k) + 2).toNatClampNeg) hJ.1) (cwV 2 hts gL_law_X6_setTools rfl rfl rfl (by decide +kernel) ⟨Nat.le_of_ble_eq_true rfl, Nat.le_of_ble_eq_true rfl⟩) (z_preV hA hS hM (m_recv hA hM)) rfl rfl hl.1 rfl (lv_room (Nat.le_of_ble_eq_true rfl)) dL_law_707 ⟨hc, hs⟩) hS (fun r8 B8 H locs hw8 hM hz8 hS => ?_)
    rcases hw8 with ⟨-, rfl, hB8⟩ | ⟨hn8, -⟩
    rotate_left
    · exact absurd hcd hn8
    rw [hB8] at hM
    refine lv_istore (lv' := [(6, .int (an_setTools (z2 B 27 0 0) (xs ((nI k) + 1).toNatClampNeg))), (5, .int 0), (0, .ref b), (1, .ref x), (2, .ref y), (3, .ref o9), (4, .int (nI k))]) hx hb dL_law_710 hl (by decide) rfl (fun ls hl => ?_)
    refine lv_aload_n hx hb dL_law_712 rfl (lv_at hl 4 rfl) ?_
    refine z_calli (va_runV (As := []) (rest := []) ⟨hx, hb, hml, hown, hts⟩ (c6_thrown l D cy s.heap.size u9 y r (up_setTools (z2 B 27 0 0) (xs ((nI k) + 1).toNatClampNeg) (xs ((nI k) + 2).toNatClampNeg))) (cwV 0 hts gL_law_X6_thrown rfl rfl rfl (by decide +kernel) ⟨Nat.le_of_ble_eq_true rfl, Nat.le_of_ble_eq_true rfl⟩) (z_preV hA hS hM (m_recv hA hM)) rfl rfl hl.1 rfl (lv_room (Nat.le_of_ble_eq_true rfl)) dL_law_713 ⟨hc, hs⟩) hS (fun r7 B7 H locs hw7 hM hz7 hS => ?_)
    obtain ⟨rfl, hB7⟩ := hw7
    rw [hB7] at hM
    obtain ⟨w2, hH, hM2, hF2⟩ := hM
    rw [t27_setTools]
    have ko2 : zK w2 o9 = 14 := (hF2.1 o9).trans (hGo.1.trans k_o)
    have no2 : zN w2 o9 = 1 := (hF2.2.2.1 o9).trans (hGo.2.1.trans n_o)
    refine lv_iload hx hb dL_law_716 (lv_at hl 1 rfl) ?_
    refine lv_icmp_eq (tgt := 723) hx hb dL_law_718 (by decide) (fun _ => ?_) (fun c_1 => absurd c_1 (by decide))
    refine lv_iload hx hb dL_law_723 (lv_at hl 1 rfl) ?_
    refine lv_if_ne (tgt := 740) hx hb dL_law_725 (by decide) (fun c_2 => absurd c_2 (by decide)) (fun _ => ?_)
    refine lv_aload_n hx hb dL_law_728 rfl (lv_at hl 5 rfl) ?_
    refine lv_iconst (v := 0) hx hb dL_law_729 (by decide) ?_
    refine z_jald hx hb hA hH (zk0 ko2 (by decide)) (zEn (zE_k14 ko2) no2) 0 rfl (by decide) (by decide) dL_law_730 ?_
    rw [show zJ w2 o9 0 = ((an_setTools (z2 B 27 0 0) (xs ((nI k) + 1).toNatClampNeg))).toInt64 from (congrFun (hF2.2.2.2.2.1 o9) 0).trans hJv]
    refine lv_iload hx hb dL_law_731 (lv_at hl 0 rfl) ?_
    refine lv_i2l (v := ((an_setTools (z2 B 27 0 0) (xs ((nI k) + 1).toNatClampNeg))).toInt64) hx hb dL_law_733 rfl ?_
    refine W.lcmp hx hb dL_law_734 ?_
    rw [lg_self]
    refine lv_if_eq (tgt := 740) hx hb dL_law_735 (by decide) (fun _ => ?_) (fun c_3 => absurd c_3 (by decide))
    refine lv_goto (tgt := 1431) hx hb dL_law_740 (by decide) ?_
    have hl_4 : lv_has ls 7 [(0, .ref b), (1, .ref x), (2, .ref y), (3, .ref o9), (4, .int (nI k))] := lv_sub hl [2, 3, 4, 5, 6] rfl
    exact kk w2 _ _ _ _ ⟨Rep_mFr hRep1 hF2, hM2, (JU_setTools (mJ_27 hJ 0) (by rw [c27_setTools]; exact hcd)), ko2, no2⟩ hH hS hl_4
  · rw [c27_setTools] at hcd ⊢
    rw [hu9] at hH
    have hM : mH D cy s.heap.size w y r B H := ⟨w, hH, hM0, mFr_rf w⟩
    refine lv_istore (lv' := [(5, .int (cd_setTools B (xs ((nI k) + 1).toNatClampNeg) (xs ((nI k) + 2).toNatClampNeg))), (0, .ref b), (1, .ref x), (2, .ref y), (3, .ref o9), (4, .int (nI k))]) hx hb dL_law_692 hl (by decide) rfl (fun ls hl => ?_)
    refine lv_aload_n hx hb dL_law_694 rfl (lv_at hl 3 rfl) ?_
    refine lv_aload_n hx hb dL_law_695 rfl (lv_at hl 1 rfl) ?_
    refine lv_iload hx hb dL_law_696 (lv_at hl 5 rfl) ?_
    refine lv_iconst (v := 1) hx hb dL_law_698 (by decide) ?_
    refine lv_iadd hx hb dL_law_699 ?_
    refine va_sld hx hb hX hbl hbA hS (law_in (j := 1) hk hL (by decide)) dL_law_700 ?_
    refine lv_aload_n hx hb dL_law_701 rfl (lv_at hl 1 rfl) ?_
    refine lv_iload hx hb dL_law_702 (lv_at hl 5 rfl) ?_
    refine lv_iconst (v := 2) hx hb dL_law_704 (by decide) ?_
    refine lv_iadd hx hb dL_law_705 ?_
    refine va_sld hx hb hX hbl hbA hS (law_in (j := 2) hk hL (by decide)) dL_law_706 ?_
    refine z_calli (va_runV (As := [.int (xs ((nI k) + 1).toNatClampNeg), .int (xs ((nI k) + 2).toNatClampNeg)]) (rest := []) ⟨hx, hb, hml, hown, hts⟩ (c6_setTools l D cy s.heap.size w y r B (xs ((nI k) + 1).toNatClampNeg) (xs ((nI k) + 2).toNatClampNeg) hJ.1) (cwV 2 hts gL_law_X6_setTools rfl rfl rfl (by decide +kernel) ⟨Nat.le_of_ble_eq_true rfl, Nat.le_of_ble_eq_true rfl⟩) (z_preV hA hS hM (m_recv hA hM)) rfl rfl hl.1 rfl (lv_room (Nat.le_of_ble_eq_true rfl)) dL_law_707 ⟨hc, hs⟩) hS (fun r8 B8 H locs hw8 hM hz8 hS => ?_)
    rcases hw8 with ⟨hn8, -, -⟩ | ⟨-, hB8⟩
    · exact absurd hn8 hcd
    rw [hB8] at hM
    refine lv_istore (lv' := [(6, .int r8), (5, .int (cd_setTools B (xs ((nI k) + 1).toNatClampNeg) (xs ((nI k) + 2).toNatClampNeg))), (0, .ref b), (1, .ref x), (2, .ref y), (3, .ref o9), (4, .int (nI k))]) hx hb dL_law_710 hl (by decide) rfl (fun ls hl => ?_)
    refine lv_aload_n hx hb dL_law_712 rfl (lv_at hl 4 rfl) ?_
    refine z_calli (va_runV (As := []) (rest := []) ⟨hx, hb, hml, hown, hts⟩ (c6_thrown l D cy s.heap.size w y r (z2 B 27 0 (cd_setTools B (xs ((nI k) + 1).toNatClampNeg) (xs ((nI k) + 2).toNatClampNeg)))) (cwV 0 hts gL_law_X6_thrown rfl rfl rfl (by decide +kernel) ⟨Nat.le_of_ble_eq_true rfl, Nat.le_of_ble_eq_true rfl⟩) (z_preV hA hS hM (m_recv hA hM)) rfl rfl hl.1 rfl (lv_room (Nat.le_of_ble_eq_true rfl)) dL_law_713 ⟨hc, hs⟩) hS (fun r7 B7 H locs hw7 hM hz7 hS => ?_)
    obtain ⟨rfl, hB7⟩ := hw7
    rw [hB7] at hM
    obtain ⟨w2, hH, hM2, hF2⟩ := hM
    rw [t27_v]
    have ko2 : zK w2 o9 = 14 := (hF2.1 o9).trans k_o
    have no2 : zN w2 o9 = 1 := (hF2.2.2.1 o9).trans n_o
    refine lv_iload hx hb dL_law_716 (lv_at hl 1 rfl) ?_
    refine lv_icmp_eq (tgt := 723) hx hb dL_law_718 (by decide) (fun c_5 => ?_) (fun c_5 => absurd (rfl) c_5)
    refine lv_iload hx hb dL_law_723 (lv_at hl 1 rfl) ?_
    refine lv_if_ne (tgt := 740) hx hb dL_law_725 (by decide) (fun _ => ?_) (fun h9 => absurd h9 hcd)
    refine lv_goto (tgt := 1431) hx hb dL_law_740 (by decide) ?_
    have hl_6 : lv_has ls 7 [(0, .ref b), (1, .ref x), (2, .ref y), (3, .ref o9), (4, .int (nI k))] := lv_sub hl [2, 3, 4, 5, 6] rfl
    exact kk w2 _ _ _ _ ⟨Rep_mFr (Rep_27 hRep _) hF2, hM2, mJ_27 hJ _, ko2, no2⟩ hH hS hl_6
set_option maxHeartbeats 4000000 in
set_option maxRecDepth 100000 in
theorem law_toolsOut {p : Program} {e : Env} {s : State} {m : MethodId} {below : List Frame} {meth : Method} {c : Code} {H : Heap} {locs : List Loc} {cells slots : Nat} {ls : Array Slot} (l : Launch) (hl9 : l.stackTraces = false) {D : va_G} {cy : Nat → ClassId} {b L : Nat} {xs : Nat → Int32} (hL : L ≤ 2560) (C0 : lw_At p s m meth c b L xs) (hA : zA D cy s.heap.size s) {w : zW} {x y o9 : Nat} {r : Nat → Nat} {B : mB} (hI : LI w x y o9 r B) (hH : zH D cy s.heap.size w H) (hS : va_S (fun q : Nat => s.heap.size ≤ q) s.heap H locs) {k : Nat} (hk : k + 5 ≤ L) (hl : lv_has ls 7 [(0, .ref b), (1, .ref x), (2, .ref y), (3, .ref o9), (4, .int (nI k))]) (hc : cells + 8 ≤ 601024) (hs : slots + 100 ≤ 7293034) (kk : ∀ (w1 : zW) (B1 : mB) (H1 : Heap) (locs1 : List Loc) (ls1 : Array Slot), LI w1 x y o9 r B1 → zH D cy s.heap.size w1 H1 → va_S (fun q : Nat => s.heap.size ≤ q) s.heap H1 locs1 → lv_has ls1 7 [(0, .ref b), (1, .ref x), (2, .ref y), (3, .ref o9), (4, .int (nI k))] → W p l e room_1 s m #[Value.ref b] below meth c H1 locs1 (cells + 8) (slots + 100) (lw_Z below #[Value.ref b] s) (F0 m 1431 ls1 [])) : W p l e room_1 s m #[Value.ref b] below meth c H locs cells slots (lw_Z below #[Value.ref b] s) (F0 m 743 ls []) := by
  obtain ⟨hx, hb, hr, hml, hown, hts0, hX, hbl, hlocks, hgv⟩ := id C0
  have hb : c.code = cL_law := hb
  have hown : s.vm.findClass RL = some m.cls := hown
  have hts : ∀ w ∈ wsL_law, w.before #[Value.ref b] s = true := fun w h => hts0 w (wsL_law_in w h)
  have hbA : ¬ (fun q : Nat => s.heap.size ≤ q) b := Nat.not_le.mpr hbl
  obtain ⟨hRep, hM0, hJ, k_o, n_o⟩ := hI
  refine lv_aload_n hx hb dL_law_743 rfl (lv_at hl 1 rfl) ?_
  refine lv_aload_n hx hb dL_law_744 rfl (lv_at hl 0 rfl) ?_
  refine lv_iload hx hb dL_law_745 (lv_at hl 4 rfl) ?_
  refine lv_iconst (v := 1) hx hb dL_law_747 (by decide) ?_
  refine lv_iadd hx hb dL_law_748 ?_
  refine va_sld hx hb hX hbl hbA hS (law_in (j := 1) hk hL (by decide)) dL_law_749 ?_
  refine lv_aload_n hx hb dL_law_750 rfl (lv_at hl 3 rfl) ?_
  refine z_xcalli (vx_runSX (As := [.ref x, .int (xs ((nI k) + 1).toNatClampNeg), .ref o9]) (rest := []) ⟨hx, hb, hml, hown, hts⟩ (zL_toolsOut l hl9 D cy s.heap.size w x o9 (z2 B 27 0 0) (xs ((nI k) + 1).toNatClampNeg) k_o n_o (Rep_27 hRep 0) (mJ_27 hJ 0)) (vx_cwSW 3 hts gL_law_L_toolsOut rfl rfl rfl (by decide +kernel) ⟨Nat.le_of_ble_eq_true rfl, Nat.le_of_ble_eq_true rfl⟩) (z_preS hA hS hH) rfl rfl hl.1 rfl (lv_room (Nat.le_of_ble_eq_true rfl)) dL_law_751 ⟨hc, hs⟩) hS (fun E9 ce9 q9 u9 H locs hw9 hH hz9 hS hce9 hv9 hcl9 => hw9.elim) (fun r9 u9 H locs hw9 hH hz9 hS => ?_)
  rcases hw9 with ⟨hcd, rfl, hRep1, hG, hJv⟩ | ⟨hcd, rfl, hu9⟩
  · rw [c27_K] at hcd
    have hGo := hG o9 (Or.inr (Or.inr (Or.inr k_o)))
    have hM : mH D cy s.heap.size u9 y r B H := ⟨u9, hH, mRep_g hM0 hG, mFr_rf u9⟩
    refine lv_istore (lv' := [(5, .int 0), (0, .ref b), (1, .ref x), (2, .ref y), (3, .ref o9), (4, .int (nI k))]) hx hb dL_law_754 hl (by decide) rfl (fun ls hl => ?_)
    refine lv_aload_n hx hb dL_law_756 rfl (lv_at hl 3 rfl) ?_
    refine lv_aload_n hx hb dL_law_757 rfl (lv_at hl 1 rfl) ?_
    refine lv_iload hx hb dL_law_758 (lv_at hl 5 rfl) ?_
    refine lv_iconst (v := 1) hx hb dL_law_760 (by decide) ?_
    refine lv_iadd hx hb dL_law_761 ?_
    refine va_sld hx hb hX hbl hbA hS (law_in (j := 1) hk hL (by decide)) dL_law_762 ?_
    refine z_calli (va_runV (As := [.int (xs ((nI k) + 1).toNatClampNeg)]) (rest := []) ⟨hx, hb, hml, hown, hts⟩ (c6_toolsOut l D cy s.heap.size u9 y r B (xs ((nI k) + 1).toNatClampNeg) hJ.1) (cwV 1 hts gL_law_X6_toolsOut rfl rfl rfl (by decide +kernel) ⟨Nat.le_of_ble_eq_true rfl, Nat.le_of_ble_eq_true rfl⟩) (z_preV hA hS hM (m_recv hA hM)) rfl rfl hl.1 rfl (lv_room (Nat.le_of_ble_eq_true rfl)) dL_law_763 ⟨hc, hs⟩) hS (fun r8 B8 H locs hw8 hM hz8 hS => ?_)
    rcases hw8 with ⟨-, rfl, hB8⟩ | ⟨hn8, -⟩
    rotate_left
    · exact absurd hcd hn8
    rw [hB8] at hM
    refine lv_istore (lv' := [(6, .int (an_toolsOut (z2 B 27 0 0) (xs ((nI k) + 1).toNatClampNeg))), (5, .int 0), (0, .ref b), (1, .ref x), (2, .ref y), (3, .ref o9), (4, .int (nI k))]) hx hb dL_law_766 hl (by decide) rfl (fun ls hl => ?_)
    refine lv_aload_n hx hb dL_law_768 rfl (lv_at hl 4 rfl) ?_
    refine z_calli (va_runV (As := []) (rest := []) ⟨hx, hb, hml, hown, hts⟩ (c6_thrown l D cy s.heap.size u9 y r (z2 B 27 0 0)) (cwV 0 hts gL_law_X6_thrown rfl rfl rfl (by decide +kernel) ⟨Nat.le_of_ble_eq_true rfl, Nat.le_of_ble_eq_true rfl⟩) (z_preV hA hS hM (m_recv hA hM)) rfl rfl hl.1 rfl (lv_room (Nat.le_of_ble_eq_true rfl)) dL_law_769 ⟨hc, hs⟩) hS (fun r7 B7 H locs hw7 hM hz7 hS => ?_)
    obtain ⟨rfl, hB7⟩ := hw7
    rw [hB7] at hM
    obtain ⟨w2, hH, hM2, hF2⟩ := hM
    rw [t27_0]
    have ko2 : zK w2 o9 = 14 := (hF2.1 o9).trans (hGo.1.trans k_o)
    have no2 : zN w2 o9 = 1 := (hF2.2.2.1 o9).trans (hGo.2.1.trans n_o)
    refine lv_iload hx hb dL_law_772 (lv_at hl 1 rfl) ?_
    refine lv_icmp_eq (tgt := 779) hx hb dL_law_774 (by decide) (fun _ => ?_) (fun c_1 => absurd c_1 (by decide))
    refine lv_iload hx hb dL_law_779 (lv_at hl 1 rfl) ?_
    refine lv_if_ne (tgt := 796) hx hb dL_law_781 (by decide) (fun c_2 => absurd c_2 (by decide)) (fun _ => ?_)
    refine lv_aload_n hx hb dL_law_784 rfl (lv_at hl 5 rfl) ?_
    refine lv_iconst (v := 0) hx hb dL_law_785 (by decide) ?_
    refine z_jald hx hb hA hH (zk0 ko2 (by decide)) (zEn (zE_k14 ko2) no2) 0 rfl (by decide) (by decide) dL_law_786 ?_
    rw [show zJ w2 o9 0 = ((an_toolsOut (z2 B 27 0 0) (xs ((nI k) + 1).toNatClampNeg))).toInt64 from (congrFun (hF2.2.2.2.2.1 o9) 0).trans hJv]
    refine lv_iload hx hb dL_law_787 (lv_at hl 0 rfl) ?_
    refine lv_i2l (v := ((an_toolsOut (z2 B 27 0 0) (xs ((nI k) + 1).toNatClampNeg))).toInt64) hx hb dL_law_789 rfl ?_
    refine W.lcmp hx hb dL_law_790 ?_
    rw [lg_self]
    refine lv_if_eq (tgt := 796) hx hb dL_law_791 (by decide) (fun _ => ?_) (fun c_3 => absurd c_3 (by decide))
    refine lv_goto (tgt := 1431) hx hb dL_law_796 (by decide) ?_
    have hl_4 : lv_has ls 7 [(0, .ref b), (1, .ref x), (2, .ref y), (3, .ref o9), (4, .int (nI k))] := lv_sub hl [2, 3, 4, 5, 6] rfl
    exact kk w2 _ _ _ _ ⟨Rep_mFr hRep1 hF2, hM2, (mJ_27 hJ 0), ko2, no2⟩ hH hS hl_4
  · rw [c27_K] at hcd ⊢
    rw [hu9] at hH
    have hM : mH D cy s.heap.size w y r B H := ⟨w, hH, hM0, mFr_rf w⟩
    refine lv_istore (lv' := [(5, .int (cd_K B (xs ((nI k) + 1).toNatClampNeg))), (0, .ref b), (1, .ref x), (2, .ref y), (3, .ref o9), (4, .int (nI k))]) hx hb dL_law_754 hl (by decide) rfl (fun ls hl => ?_)
    refine lv_aload_n hx hb dL_law_756 rfl (lv_at hl 3 rfl) ?_
    refine lv_aload_n hx hb dL_law_757 rfl (lv_at hl 1 rfl) ?_
    refine lv_iload hx hb dL_law_758 (lv_at hl 5 rfl) ?_
    refine lv_iconst (v := 1) hx hb dL_law_760 (by decide) ?_
    refine lv_iadd hx hb dL_law_761 ?_
    refine va_sld hx hb hX hbl hbA hS (law_in (j := 1) hk hL (by decide)) dL_law_762 ?_
    refine z_calli (va_runV (As := [.int (xs ((nI k) + 1).toNatClampNeg)]) (rest := []) ⟨hx, hb, hml, hown, hts⟩ (c6_toolsOut l D cy s.heap.size w y r B (xs ((nI k) + 1).toNatClampNeg) hJ.1) (cwV 1 hts gL_law_X6_toolsOut rfl rfl rfl (by decide +kernel) ⟨Nat.le_of_ble_eq_true rfl, Nat.le_of_ble_eq_true rfl⟩) (z_preV hA hS hM (m_recv hA hM)) rfl rfl hl.1 rfl (lv_room (Nat.le_of_ble_eq_true rfl)) dL_law_763 ⟨hc, hs⟩) hS (fun r8 B8 H locs hw8 hM hz8 hS => ?_)
    rcases hw8 with ⟨hn8, -, -⟩ | ⟨-, hB8⟩
    · exact absurd hn8 hcd
    rw [hB8] at hM
    refine lv_istore (lv' := [(6, .int r8), (5, .int (cd_K B (xs ((nI k) + 1).toNatClampNeg))), (0, .ref b), (1, .ref x), (2, .ref y), (3, .ref o9), (4, .int (nI k))]) hx hb dL_law_766 hl (by decide) rfl (fun ls hl => ?_)
    refine lv_aload_n hx hb dL_law_768 rfl (lv_at hl 4 rfl) ?_
    refine z_calli (va_runV (As := []) (rest := []) ⟨hx, hb, hml, hown, hts⟩ (c6_thrown l D cy s.heap.size w y r (z2 B 27 0 (cd_K B (xs ((nI k) + 1).toNatClampNeg)))) (cwV 0 hts gL_law_X6_thrown rfl rfl rfl (by decide +kernel) ⟨Nat.le_of_ble_eq_true rfl, Nat.le_of_ble_eq_true rfl⟩) (z_preV hA hS hM (m_recv hA hM)) rfl rfl hl.1 rfl (lv_room (Nat.le_of_ble_eq_true rfl)) dL_law_769 ⟨hc, hs⟩) hS (fun r7 B7 H locs hw7 hM hz7 hS => ?_)
    obtain ⟨rfl, hB7⟩ := hw7
    rw [hB7] at hM
    obtain ⟨w2, hH, hM2, hF2⟩ := hM
    rw [t27_v]
    have ko2 : zK w2 o9 = 14 := (hF2.1 o9).trans k_o
    have no2 : zN w2 o9 = 1 := (hF2.2.2.1 o9).trans n_o
    refine lv_iload hx hb dL_law_772 (lv_at hl 1 rfl) ?_
    refine lv_icmp_eq (tgt := 779) hx hb dL_law_774 (by decide) (fun c_5 => ?_) (fun c_5 => absurd (rfl) c_5)
    refine lv_iload hx hb dL_law_779 (lv_at hl 1 rfl) ?_
    refine lv_if_ne (tgt := 796) hx hb dL_law_781 (by decide) (fun _ => ?_) (fun h9 => absurd h9 hcd)
    refine lv_goto (tgt := 1431) hx hb dL_law_796 (by decide) ?_
    have hl_6 : lv_has ls 7 [(0, .ref b), (1, .ref x), (2, .ref y), (3, .ref o9), (4, .int (nI k))] := lv_sub hl [2, 3, 4, 5, 6] rfl
    exact kk w2 _ _ _ _ ⟨Rep_mFr (Rep_27 hRep _) hF2, hM2, mJ_27 hJ _, ko2, no2⟩ hH hS hl_6
set_option maxHeartbeats 4000000 in
set_option maxRecDepth 100000 in
theorem law_addOrder {p : Program} {e : Env} {s : State} {m : MethodId} {below : List Frame} {meth : Method} {c : Code} {H : Heap} {locs : List Loc} {cells slots : Nat} {ls : Array Slot} (l : Launch) (hl9 : l.stackTraces = false) {D : va_G} {cy : Nat → ClassId} {b L : Nat} {xs : Nat → Int32} (hL : L ≤ 2560) (C0 : lw_At p s m meth c b L xs) (hA : zA D cy s.heap.size s) {w : zW} {x y o9 : Nat} {r : Nat → Nat} {B : mB} (hI : LI w x y o9 r B) (hH : zH D cy s.heap.size w H) (hS : va_S (fun q : Nat => s.heap.size ≤ q) s.heap H locs) {k : Nat} (hk : k + 5 ≤ L) (hl : lv_has ls 7 [(0, .ref b), (1, .ref x), (2, .ref y), (3, .ref o9), (4, .int (nI k))]) (hc : cells + 8 ≤ 601024) (hs : slots + 100 ≤ 7293034) (kk : ∀ (w1 : zW) (B1 : mB) (H1 : Heap) (locs1 : List Loc) (ls1 : Array Slot), LI w1 x y o9 r B1 → zH D cy s.heap.size w1 H1 → va_S (fun q : Nat => s.heap.size ≤ q) s.heap H1 locs1 → lv_has ls1 7 [(0, .ref b), (1, .ref x), (2, .ref y), (3, .ref o9), (4, .int (nI k))] → W p l e room_1 s m #[Value.ref b] below meth c H1 locs1 (cells + 8) (slots + 100) (lw_Z below #[Value.ref b] s) (F0 m 1431 ls1 [])) : W p l e room_1 s m #[Value.ref b] below meth c H locs cells slots (lw_Z below #[Value.ref b] s) (F0 m 799 ls []) := by
  obtain ⟨hx, hb, hr, hml, hown, hts0, hX, hbl, hlocks, hgv⟩ := id C0
  have hb : c.code = cL_law := hb
  have hown : s.vm.findClass RL = some m.cls := hown
  have hts : ∀ w ∈ wsL_law, w.before #[Value.ref b] s = true := fun w h => hts0 w (wsL_law_in w h)
  have hbA : ¬ (fun q : Nat => s.heap.size ≤ q) b := Nat.not_le.mpr hbl
  obtain ⟨hRep, hM0, hJ, k_o, n_o⟩ := hI
  refine lv_aload_n hx hb dL_law_799 rfl (lv_at hl 1 rfl) ?_
  refine lv_aload_n hx hb dL_law_800 rfl (lv_at hl 0 rfl) ?_
  refine lv_iload hx hb dL_law_801 (lv_at hl 4 rfl) ?_
  refine lv_iconst (v := 1) hx hb dL_law_803 (by decide) ?_
  refine lv_iadd hx hb dL_law_804 ?_
  refine va_sld hx hb hX hbl hbA hS (law_in (j := 1) hk hL (by decide)) dL_law_805 ?_
  refine lv_aload_n hx hb dL_law_806 rfl (lv_at hl 0 rfl) ?_
  refine lv_iload hx hb dL_law_807 (lv_at hl 4 rfl) ?_
  refine lv_iconst (v := 2) hx hb dL_law_809 (by decide) ?_
  refine lv_iadd hx hb dL_law_810 ?_
  refine va_sld hx hb hX hbl hbA hS (law_in (j := 2) hk hL (by decide)) dL_law_811 ?_
  refine lv_aload_n hx hb dL_law_812 rfl (lv_at hl 0 rfl) ?_
  refine lv_iload hx hb dL_law_813 (lv_at hl 4 rfl) ?_
  refine lv_iconst (v := 3) hx hb dL_law_815 (by decide) ?_
  refine lv_iadd hx hb dL_law_816 ?_
  refine va_sld hx hb hX hbl hbA hS (law_in (j := 3) hk hL (by decide)) dL_law_817 ?_
  refine lv_aload_n hx hb dL_law_818 rfl (lv_at hl 0 rfl) ?_
  refine lv_iload hx hb dL_law_819 (lv_at hl 4 rfl) ?_
  refine lv_iconst (v := 4) hx hb dL_law_821 (by decide) ?_
  refine lv_iadd hx hb dL_law_822 ?_
  refine va_sld hx hb hX hbl hbA hS (law_in (j := 4) hk hL (by decide)) dL_law_823 ?_
  refine lv_aload_n hx hb dL_law_824 rfl (lv_at hl 3 rfl) ?_
  refine z_xcalli (vx_runSX (As := [.ref x, .int (xs ((nI k) + 1).toNatClampNeg), .int (xs ((nI k) + 2).toNatClampNeg), .int (xs ((nI k) + 3).toNatClampNeg), .int (xs ((nI k) + 4).toNatClampNeg), .ref o9]) (rest := []) ⟨hx, hb, hml, hown, hts⟩ (zL_addOrder l hl9 D cy s.heap.size w x o9 (z2 B 27 0 0) (xs ((nI k) + 1).toNatClampNeg) (xs ((nI k) + 2).toNatClampNeg) (xs ((nI k) + 3).toNatClampNeg) (xs ((nI k) + 4).toNatClampNeg) k_o n_o (Rep_27 hRep 0) (mJ_27 hJ 0)) (vx_cwSW 6 hts gL_law_L_addOrder rfl rfl rfl (by decide +kernel) ⟨Nat.le_of_ble_eq_true rfl, Nat.le_of_ble_eq_true rfl⟩) (z_preS hA hS hH) rfl rfl hl.1 rfl (lv_room (Nat.le_of_ble_eq_true rfl)) dL_law_825 ⟨hc, hs⟩) hS (fun E9 ce9 q9 u9 H locs hw9 hH hz9 hS hce9 hv9 hcl9 => hw9.elim) (fun r9 u9 H locs hw9 hH hz9 hS => ?_)
  rcases hw9 with ⟨hcd, rfl, hRep1, hG, hJv⟩ | ⟨hcd, rfl, hu9⟩
  · rw [c27_addOrder] at hcd
    have hGo := hG o9 (Or.inr (Or.inr (Or.inr k_o)))
    have hM : mH D cy s.heap.size u9 y r B H := ⟨u9, hH, mRep_g hM0 hG, mFr_rf u9⟩
    refine lv_istore (lv' := [(5, .int 0), (0, .ref b), (1, .ref x), (2, .ref y), (3, .ref o9), (4, .int (nI k))]) hx hb dL_law_828 hl (by decide) rfl (fun ls hl => ?_)
    refine lv_aload_n hx hb dL_law_830 rfl (lv_at hl 3 rfl) ?_
    refine lv_aload_n hx hb dL_law_831 rfl (lv_at hl 1 rfl) ?_
    refine lv_iload hx hb dL_law_832 (lv_at hl 5 rfl) ?_
    refine lv_iconst (v := 1) hx hb dL_law_834 (by decide) ?_
    refine lv_iadd hx hb dL_law_835 ?_
    refine va_sld hx hb hX hbl hbA hS (law_in (j := 1) hk hL (by decide)) dL_law_836 ?_
    refine lv_aload_n hx hb dL_law_837 rfl (lv_at hl 1 rfl) ?_
    refine lv_iload hx hb dL_law_838 (lv_at hl 5 rfl) ?_
    refine lv_iconst (v := 2) hx hb dL_law_840 (by decide) ?_
    refine lv_iadd hx hb dL_law_841 ?_
    refine va_sld hx hb hX hbl hbA hS (law_in (j := 2) hk hL (by decide)) dL_law_842 ?_
    refine lv_aload_n hx hb dL_law_843 rfl (lv_at hl 1 rfl) ?_
    refine lv_iload hx hb dL_law_844 (lv_at hl 5 rfl) ?_
    refine lv_iconst (v := 3) hx hb dL_law_846 (by decide) ?_
    refine lv_iadd hx hb dL_law_847 ?_
    refine va_sld hx hb hX hbl hbA hS (law_in (j := 3) hk hL (by decide)) dL_law_848 ?_
    refine lv_aload_n hx hb dL_law_849 rfl (lv_at hl 1 rfl) ?_
    refine lv_iload hx hb dL_law_850 (lv_at hl 5 rfl) ?_
    refine lv_iconst (v := 4) hx hb dL_law_852 (by decide) ?_
    refine lv_iadd hx hb dL_law_853 ?_
    refine va_sld hx hb hX hbl hbA hS (law_in (j := 4) hk hL (by decide)) dL_law_854 ?_
    refine z_calli (va_runV (As := [.int (xs ((nI k) + 1).toNatClampNeg), .int (xs ((nI k) + 2).toNatClampNeg), .int (xs ((nI k) + 3).toNatClampNeg), .int (xs ((nI k) + 4).toNatClampNeg)]) (rest := []) ⟨hx, hb, hml, hown, hts⟩ (c6_addOrder l D cy s.heap.size u9 y r B (xs ((nI k) + 1).toNatClampNeg) (xs ((nI k) + 2).toNatClampNeg) (xs ((nI k) + 3).toNatClampNeg) (xs ((nI k) + 4).toNatClampNeg) hJ.1) (cwV 4 hts gL_law_X6_addOrder rfl rfl rfl (by decide +kernel) ⟨Nat.le_of_ble_eq_true rfl, Nat.le_of_ble_eq_true rfl⟩) (z_preV hA hS hM (m_recv hA hM)) rfl rfl hl.1 rfl (lv_room (Nat.le_of_ble_eq_true rfl)) dL_law_855 ⟨hc, hs⟩) hS (fun r8 B8 H locs hw8 hM hz8 hS => ?_)
    rcases hw8 with ⟨-, rfl, hB8⟩ | ⟨hn8, -⟩
    rotate_left
    · exact absurd hcd hn8
    rw [hB8] at hM
    refine lv_istore (lv' := [(6, .int (an_addOrder (z2 B 27 0 0))), (5, .int 0), (0, .ref b), (1, .ref x), (2, .ref y), (3, .ref o9), (4, .int (nI k))]) hx hb dL_law_858 hl (by decide) rfl (fun ls hl => ?_)
    refine lv_aload_n hx hb dL_law_860 rfl (lv_at hl 4 rfl) ?_
    refine z_calli (va_runV (As := []) (rest := []) ⟨hx, hb, hml, hown, hts⟩ (c6_thrown l D cy s.heap.size u9 y r (up_addOrder (z2 B 27 0 0) (xs ((nI k) + 1).toNatClampNeg) (xs ((nI k) + 2).toNatClampNeg) (xs ((nI k) + 3).toNatClampNeg) (xs ((nI k) + 4).toNatClampNeg))) (cwV 0 hts gL_law_X6_thrown rfl rfl rfl (by decide +kernel) ⟨Nat.le_of_ble_eq_true rfl, Nat.le_of_ble_eq_true rfl⟩) (z_preV hA hS hM (m_recv hA hM)) rfl rfl hl.1 rfl (lv_room (Nat.le_of_ble_eq_true rfl)) dL_law_861 ⟨hc, hs⟩) hS (fun r7 B7 H locs hw7 hM hz7 hS => ?_)
    obtain ⟨rfl, hB7⟩ := hw7
    rw [hB7] at hM
    obtain ⟨w2, hH, hM2, hF2⟩ := hM
    rw [t27_addOrder]
    have ko2 : zK w2 o9 = 14 := (hF2.1 o9).trans (hGo.1.trans k_o)
    have no2 : zN w2 o9 = 1 := (hF2.2.2.1 o9).trans (hGo.2.1.trans n_o)
    refine lv_iload hx hb dL_law_864 (lv_at hl 1 rfl) ?_
    refine lv_icmp_eq (tgt := 871) hx hb dL_law_866 (by decide) (fun _ => ?_) (fun c_1 => absurd c_1 (by decide))
    refine lv_iload hx hb dL_law_871 (lv_at hl 1 rfl) ?_
    refine lv_if_ne (tgt := 888) hx hb dL_law_873 (by decide) (fun c_2 => absurd c_2 (by decide)) (fun _ => ?_)
    refine lv_aload_n hx hb dL_law_876 rfl (lv_at hl 5 rfl) ?_
    refine lv_iconst (v := 0) hx hb dL_law_877 (by decide) ?_
    refine z_jald hx hb hA hH (zk0 ko2 (by decide)) (zEn (zE_k14 ko2) no2) 0 rfl (by decide) (by decide) dL_law_878 ?_
    rw [show zJ w2 o9 0 = ((an_addOrder (z2 B 27 0 0))).toInt64 from (congrFun (hF2.2.2.2.2.1 o9) 0).trans hJv]
    refine lv_iload hx hb dL_law_879 (lv_at hl 0 rfl) ?_
    refine lv_i2l (v := ((an_addOrder (z2 B 27 0 0))).toInt64) hx hb dL_law_881 rfl ?_
    refine W.lcmp hx hb dL_law_882 ?_
    rw [lg_self]
    refine lv_if_eq (tgt := 888) hx hb dL_law_883 (by decide) (fun _ => ?_) (fun c_3 => absurd c_3 (by decide))
    refine lv_goto (tgt := 1431) hx hb dL_law_888 (by decide) ?_
    have hl_4 : lv_has ls 7 [(0, .ref b), (1, .ref x), (2, .ref y), (3, .ref o9), (4, .int (nI k))] := lv_sub hl [2, 3, 4, 5, 6] rfl
    exact kk w2 _ _ _ _ ⟨Rep_mFr hRep1 hF2, hM2, (JU_addOrder (mJ_27 hJ 0) (by rw [c27_addOrder]; exact hcd)), ko2, no2⟩ hH hS hl_4
  · rw [c27_addOrder] at hcd ⊢
    rw [hu9] at hH
    have hM : mH D cy s.heap.size w y r B H := ⟨w, hH, hM0, mFr_rf w⟩
    refine lv_istore (lv' := [(5, .int (cd_addOrder B (xs ((nI k) + 1).toNatClampNeg) (xs ((nI k) + 2).toNatClampNeg) (xs ((nI k) + 3).toNatClampNeg) (xs ((nI k) + 4).toNatClampNeg))), (0, .ref b), (1, .ref x), (2, .ref y), (3, .ref o9), (4, .int (nI k))]) hx hb dL_law_828 hl (by decide) rfl (fun ls hl => ?_)
    refine lv_aload_n hx hb dL_law_830 rfl (lv_at hl 3 rfl) ?_
    refine lv_aload_n hx hb dL_law_831 rfl (lv_at hl 1 rfl) ?_
    refine lv_iload hx hb dL_law_832 (lv_at hl 5 rfl) ?_
    refine lv_iconst (v := 1) hx hb dL_law_834 (by decide) ?_
    refine lv_iadd hx hb dL_law_835 ?_
    refine va_sld hx hb hX hbl hbA hS (law_in (j := 1) hk hL (by decide)) dL_law_836 ?_
    refine lv_aload_n hx hb dL_law_837 rfl (lv_at hl 1 rfl) ?_
    refine lv_iload hx hb dL_law_838 (lv_at hl 5 rfl) ?_
    refine lv_iconst (v := 2) hx hb dL_law_840 (by decide) ?_
    refine lv_iadd hx hb dL_law_841 ?_
    refine va_sld hx hb hX hbl hbA hS (law_in (j := 2) hk hL (by decide)) dL_law_842 ?_
    refine lv_aload_n hx hb dL_law_843 rfl (lv_at hl 1 rfl) ?_
    refine lv_iload hx hb dL_law_844 (lv_at hl 5 rfl) ?_
    refine lv_iconst (v := 3) hx hb dL_law_846 (by decide) ?_
    refine lv_iadd hx hb dL_law_847 ?_
    refine va_sld hx hb hX hbl hbA hS (law_in (j := 3) hk hL (by decide)) dL_law_848 ?_
    refine lv_aload_n hx hb dL_law_849 rfl (lv_at hl 1 rfl) ?_
    refine lv_iload hx hb dL_law_850 (lv_at hl 5 rfl) ?_
    refine lv_iconst (v := 4) hx hb dL_law_852 (by decide) ?_
    refine lv_iadd hx hb dL_law_853 ?_
    refine va_sld hx hb hX hbl hbA hS (law_in (j := 4) hk hL (by decide)) dL_law_854 ?_
    refine z_calli (va_runV (As := [.int (xs ((nI k) + 1).toNatClampNeg), .int (xs ((nI k) + 2).toNatClampNeg), .int (xs ((nI k) + 3).toNatClampNeg), .int (xs ((nI k) + 4).toNatClampNeg)]) (rest := []) ⟨hx, hb, hml, hown, hts⟩ (c6_addOrder l D cy s.heap.size w y r B (xs ((nI k) + 1).toNatClampNeg) (xs ((nI k) + 2).toNatClampNeg) (xs ((nI k) + 3).toNatClampNeg) (xs ((nI k) + 4).toNatClampNeg) hJ.1) (cwV 4 hts gL_law_X6_addOrder rfl rfl rfl (by decide +kernel) ⟨Nat.le_of_ble_eq_true rfl, Nat.le_of_ble_eq_true rfl⟩) (z_preV hA hS hM (m_recv hA hM)) rfl rfl hl.1 rfl (lv_room (Nat.le_of_ble_eq_true rfl)) dL_law_855 ⟨hc, hs⟩) hS (fun r8 B8 H locs hw8 hM hz8 hS => ?_)
    rcases hw8 with ⟨hn8, -, -⟩ | ⟨-, hB8⟩
    · exact absurd hn8 hcd
    rw [hB8] at hM
    refine lv_istore (lv' := [(6, .int r8), (5, .int (cd_addOrder B (xs ((nI k) + 1).toNatClampNeg) (xs ((nI k) + 2).toNatClampNeg) (xs ((nI k) + 3).toNatClampNeg) (xs ((nI k) + 4).toNatClampNeg))), (0, .ref b), (1, .ref x), (2, .ref y), (3, .ref o9), (4, .int (nI k))]) hx hb dL_law_858 hl (by decide) rfl (fun ls hl => ?_)
    refine lv_aload_n hx hb dL_law_860 rfl (lv_at hl 4 rfl) ?_
    refine z_calli (va_runV (As := []) (rest := []) ⟨hx, hb, hml, hown, hts⟩ (c6_thrown l D cy s.heap.size w y r (z2 B 27 0 (cd_addOrder B (xs ((nI k) + 1).toNatClampNeg) (xs ((nI k) + 2).toNatClampNeg) (xs ((nI k) + 3).toNatClampNeg) (xs ((nI k) + 4).toNatClampNeg)))) (cwV 0 hts gL_law_X6_thrown rfl rfl rfl (by decide +kernel) ⟨Nat.le_of_ble_eq_true rfl, Nat.le_of_ble_eq_true rfl⟩) (z_preV hA hS hM (m_recv hA hM)) rfl rfl hl.1 rfl (lv_room (Nat.le_of_ble_eq_true rfl)) dL_law_861 ⟨hc, hs⟩) hS (fun r7 B7 H locs hw7 hM hz7 hS => ?_)
    obtain ⟨rfl, hB7⟩ := hw7
    rw [hB7] at hM
    obtain ⟨w2, hH, hM2, hF2⟩ := hM
    rw [t27_v]
    have ko2 : zK w2 o9 = 14 := (hF2.1 o9).trans k_o
    have no2 : zN w2 o9 = 1 := (hF2.2.2.1 o9).trans n_o
    refine lv_iload hx hb dL_law_864 (lv_at hl 1 rfl) ?_
    refine lv_icmp_eq (tgt := 871) hx hb dL_law_866 (by decide) (fun c_5 => ?_) (fun c_5 => absurd (rfl) c_5)
    refine lv_iload hx hb dL_law_871 (lv_at hl 1 rfl) ?_
    refine lv_if_ne (tgt := 888) hx hb dL_law_873 (by decide) (fun _ => ?_) (fun h9 => absurd h9 hcd)
    refine lv_goto (tgt := 1431) hx hb dL_law_888 (by decide) ?_
    have hl_6 : lv_has ls 7 [(0, .ref b), (1, .ref x), (2, .ref y), (3, .ref o9), (4, .int (nI k))] := lv_sub hl [2, 3, 4, 5, 6] rfl
    exact kk w2 _ _ _ _ ⟨Rep_mFr (Rep_27 hRep _) hF2, hM2, mJ_27 hJ _, ko2, no2⟩ hH hS hl_6
set_option maxHeartbeats 4000000 in
set_option maxRecDepth 100000 in
theorem law_assign {p : Program} {e : Env} {s : State} {m : MethodId} {below : List Frame} {meth : Method} {c : Code} {H : Heap} {locs : List Loc} {cells slots : Nat} {ls : Array Slot} (l : Launch) (hl9 : l.stackTraces = false) {D : va_G} {cy : Nat → ClassId} {b L : Nat} {xs : Nat → Int32} (hL : L ≤ 2560) (C0 : lw_At p s m meth c b L xs) (hA : zA D cy s.heap.size s) {w : zW} {x y o9 : Nat} {r : Nat → Nat} {B : mB} (hI : LI w x y o9 r B) (hH : zH D cy s.heap.size w H) (hS : va_S (fun q : Nat => s.heap.size ≤ q) s.heap H locs) {k : Nat} (hk : k + 5 ≤ L) (hl : lv_has ls 7 [(0, .ref b), (1, .ref x), (2, .ref y), (3, .ref o9), (4, .int (nI k))]) (hc : cells + 8 ≤ 601024) (hs : slots + 100 ≤ 7293034) (kk : ∀ (w1 : zW) (B1 : mB) (H1 : Heap) (locs1 : List Loc) (ls1 : Array Slot), LI w1 x y o9 r B1 → zH D cy s.heap.size w1 H1 → va_S (fun q : Nat => s.heap.size ≤ q) s.heap H1 locs1 → lv_has ls1 7 [(0, .ref b), (1, .ref x), (2, .ref y), (3, .ref o9), (4, .int (nI k))] → W p l e room_1 s m #[Value.ref b] below meth c H1 locs1 (cells + 8) (slots + 100) (lw_Z below #[Value.ref b] s) (F0 m 1431 ls1 [])) : W p l e room_1 s m #[Value.ref b] below meth c H locs cells slots (lw_Z below #[Value.ref b] s) (F0 m 891 ls []) := by
  obtain ⟨hx, hb, hr, hml, hown, hts0, hX, hbl, hlocks, hgv⟩ := id C0
  have hb : c.code = cL_law := hb
  have hown : s.vm.findClass RL = some m.cls := hown
  have hts : ∀ w ∈ wsL_law, w.before #[Value.ref b] s = true := fun w h => hts0 w (wsL_law_in w h)
  have hbA : ¬ (fun q : Nat => s.heap.size ≤ q) b := Nat.not_le.mpr hbl
  obtain ⟨hRep, hM0, hJ, k_o, n_o⟩ := hI
  refine lv_aload_n hx hb dL_law_891 rfl (lv_at hl 1 rfl) ?_
  refine lv_aload_n hx hb dL_law_892 rfl (lv_at hl 0 rfl) ?_
  refine lv_iload hx hb dL_law_893 (lv_at hl 4 rfl) ?_
  refine lv_iconst (v := 1) hx hb dL_law_895 (by decide) ?_
  refine lv_iadd hx hb dL_law_896 ?_
  refine va_sld hx hb hX hbl hbA hS (law_in (j := 1) hk hL (by decide)) dL_law_897 ?_
  refine lv_aload_n hx hb dL_law_898 rfl (lv_at hl 0 rfl) ?_
  refine lv_iload hx hb dL_law_899 (lv_at hl 4 rfl) ?_
  refine lv_iconst (v := 2) hx hb dL_law_901 (by decide) ?_
  refine lv_iadd hx hb dL_law_902 ?_
  refine va_sld hx hb hX hbl hbA hS (law_in (j := 2) hk hL (by decide)) dL_law_903 ?_
  refine lv_aload_n hx hb dL_law_904 rfl (lv_at hl 3 rfl) ?_
  refine z_xcalli (vx_runSX (As := [.ref x, .int (xs ((nI k) + 1).toNatClampNeg), .int (xs ((nI k) + 2).toNatClampNeg), .ref o9]) (rest := []) ⟨hx, hb, hml, hown, hts⟩ (zL_assign l hl9 D cy s.heap.size w x o9 (z2 B 27 0 0) (xs ((nI k) + 1).toNatClampNeg) (xs ((nI k) + 2).toNatClampNeg) k_o n_o (Rep_27 hRep 0) (mJ_27 hJ 0)) (vx_cwSW 4 hts gL_law_L_assign rfl rfl rfl (by decide +kernel) ⟨Nat.le_of_ble_eq_true rfl, Nat.le_of_ble_eq_true rfl⟩) (z_preS hA hS hH) rfl rfl hl.1 rfl (lv_room (Nat.le_of_ble_eq_true rfl)) dL_law_905 ⟨hc, hs⟩) hS (fun E9 ce9 q9 u9 H locs hw9 hH hz9 hS hce9 hv9 hcl9 => hw9.elim) (fun r9 u9 H locs hw9 hH hz9 hS => ?_)
  rcases hw9 with ⟨hcd, rfl, hRep1, hG, hJv⟩ | ⟨hcd, rfl, hu9⟩
  · rw [c27_assign] at hcd
    have hGo := hG o9 (Or.inr (Or.inr (Or.inr k_o)))
    have hM : mH D cy s.heap.size u9 y r B H := ⟨u9, hH, mRep_g hM0 hG, mFr_rf u9⟩
    refine lv_istore (lv' := [(5, .int 0), (0, .ref b), (1, .ref x), (2, .ref y), (3, .ref o9), (4, .int (nI k))]) hx hb dL_law_908 hl (by decide) rfl (fun ls hl => ?_)
    refine lv_aload_n hx hb dL_law_910 rfl (lv_at hl 3 rfl) ?_
    refine lv_aload_n hx hb dL_law_911 rfl (lv_at hl 1 rfl) ?_
    refine lv_iload hx hb dL_law_912 (lv_at hl 5 rfl) ?_
    refine lv_iconst (v := 1) hx hb dL_law_914 (by decide) ?_
    refine lv_iadd hx hb dL_law_915 ?_
    refine va_sld hx hb hX hbl hbA hS (law_in (j := 1) hk hL (by decide)) dL_law_916 ?_
    refine lv_aload_n hx hb dL_law_917 rfl (lv_at hl 1 rfl) ?_
    refine lv_iload hx hb dL_law_918 (lv_at hl 5 rfl) ?_
    refine lv_iconst (v := 2) hx hb dL_law_920 (by decide) ?_
    refine lv_iadd hx hb dL_law_921 ?_
    refine va_sld hx hb hX hbl hbA hS (law_in (j := 2) hk hL (by decide)) dL_law_922 ?_
    refine z_calli (va_runV (As := [.int (xs ((nI k) + 1).toNatClampNeg), .int (xs ((nI k) + 2).toNatClampNeg)]) (rest := []) ⟨hx, hb, hml, hown, hts⟩ (c6_assign l D cy s.heap.size u9 y r B (xs ((nI k) + 1).toNatClampNeg) (xs ((nI k) + 2).toNatClampNeg) hJ.1) (cwV 2 hts gL_law_X6_assign rfl rfl rfl (by decide +kernel) ⟨Nat.le_of_ble_eq_true rfl, Nat.le_of_ble_eq_true rfl⟩) (z_preV hA hS hM (m_recv hA hM)) rfl rfl hl.1 rfl (lv_room (Nat.le_of_ble_eq_true rfl)) dL_law_923 ⟨hc, hs⟩) hS (fun r8 B8 H locs hw8 hM hz8 hS => ?_)
    rcases hw8 with ⟨-, rfl, hB8⟩ | ⟨hn8, -⟩
    rotate_left
    · exact absurd hcd hn8
    rw [hB8] at hM
    refine lv_istore (lv' := [(6, .int (an_assign (z2 B 27 0 0) (xs ((nI k) + 1).toNatClampNeg) (xs ((nI k) + 2).toNatClampNeg))), (5, .int 0), (0, .ref b), (1, .ref x), (2, .ref y), (3, .ref o9), (4, .int (nI k))]) hx hb dL_law_926 hl (by decide) rfl (fun ls hl => ?_)
    refine lv_aload_n hx hb dL_law_928 rfl (lv_at hl 4 rfl) ?_
    refine z_calli (va_runV (As := []) (rest := []) ⟨hx, hb, hml, hown, hts⟩ (c6_thrown l D cy s.heap.size u9 y r (up_assign (z2 B 27 0 0) (xs ((nI k) + 1).toNatClampNeg) (xs ((nI k) + 2).toNatClampNeg))) (cwV 0 hts gL_law_X6_thrown rfl rfl rfl (by decide +kernel) ⟨Nat.le_of_ble_eq_true rfl, Nat.le_of_ble_eq_true rfl⟩) (z_preV hA hS hM (m_recv hA hM)) rfl rfl hl.1 rfl (lv_room (Nat.le_of_ble_eq_true rfl)) dL_law_929 ⟨hc, hs⟩) hS (fun r7 B7 H locs hw7 hM hz7 hS => ?_)
    obtain ⟨rfl, hB7⟩ := hw7
    rw [hB7] at hM
    obtain ⟨w2, hH, hM2, hF2⟩ := hM
    rw [t27_assign]
    have ko2 : zK w2 o9 = 14 := (hF2.1 o9).trans (hGo.1.trans k_o)
    have no2 : zN w2 o9 = 1 := (hF2.2.2.1 o9).trans (hGo.2.1.trans n_o)
    refine lv_iload hx hb dL_law_932 (lv_at hl 1 rfl) ?_
    refine lv_icmp_eq (tgt := 939) hx hb dL_law_934 (by decide) (fun _ => ?_) (fun c_1 => absurd c_1 (by decide))
    refine lv_iload hx hb dL_law_939 (lv_at hl 1 rfl) ?_
    refine lv_if_ne (tgt := 956) hx hb dL_law_941 (by decide) (fun c_2 => absurd c_2 (by decide)) (fun _ => ?_)
    refine lv_aload_n hx hb dL_law_944 rfl (lv_at hl 5 rfl) ?_
    refine lv_iconst (v := 0) hx hb dL_law_945 (by decide) ?_
    refine z_jald hx hb hA hH (zk0 ko2 (by decide)) (zEn (zE_k14 ko2) no2) 0 rfl (by decide) (by decide) dL_law_946 ?_
    rw [show zJ w2 o9 0 = ((an_assign (z2 B 27 0 0) (xs ((nI k) + 1).toNatClampNeg) (xs ((nI k) + 2).toNatClampNeg))).toInt64 from (congrFun (hF2.2.2.2.2.1 o9) 0).trans hJv]
    refine lv_iload hx hb dL_law_947 (lv_at hl 0 rfl) ?_
    refine lv_i2l (v := ((an_assign (z2 B 27 0 0) (xs ((nI k) + 1).toNatClampNeg) (xs ((nI k) + 2).toNatClampNeg))).toInt64) hx hb dL_law_949 rfl ?_
    refine W.lcmp hx hb dL_law_950 ?_
    rw [lg_self]
    refine lv_if_eq (tgt := 956) hx hb dL_law_951 (by decide) (fun _ => ?_) (fun c_3 => absurd c_3 (by decide))
    refine lv_goto (tgt := 1431) hx hb dL_law_956 (by decide) ?_
    have hl_4 : lv_has ls 7 [(0, .ref b), (1, .ref x), (2, .ref y), (3, .ref o9), (4, .int (nI k))] := lv_sub hl [2, 3, 4, 5, 6] rfl
    exact kk w2 _ _ _ _ ⟨Rep_mFr hRep1 hF2, hM2, (JU_assign (mJ_27 hJ 0) (by rw [c27_assign]; exact hcd)), ko2, no2⟩ hH hS hl_4
  · rw [c27_assign] at hcd ⊢
    rw [hu9] at hH
    have hM : mH D cy s.heap.size w y r B H := ⟨w, hH, hM0, mFr_rf w⟩
    refine lv_istore (lv' := [(5, .int (cd_assign B (xs ((nI k) + 1).toNatClampNeg) (xs ((nI k) + 2).toNatClampNeg))), (0, .ref b), (1, .ref x), (2, .ref y), (3, .ref o9), (4, .int (nI k))]) hx hb dL_law_908 hl (by decide) rfl (fun ls hl => ?_)
    refine lv_aload_n hx hb dL_law_910 rfl (lv_at hl 3 rfl) ?_
    refine lv_aload_n hx hb dL_law_911 rfl (lv_at hl 1 rfl) ?_
    refine lv_iload hx hb dL_law_912 (lv_at hl 5 rfl) ?_
    refine lv_iconst (v := 1) hx hb dL_law_914 (by decide) ?_
    refine lv_iadd hx hb dL_law_915 ?_
    refine va_sld hx hb hX hbl hbA hS (law_in (j := 1) hk hL (by decide)) dL_law_916 ?_
    refine lv_aload_n hx hb dL_law_917 rfl (lv_at hl 1 rfl) ?_
    refine lv_iload hx hb dL_law_918 (lv_at hl 5 rfl) ?_
    refine lv_iconst (v := 2) hx hb dL_law_920 (by decide) ?_
    refine lv_iadd hx hb dL_law_921 ?_
    refine va_sld hx hb hX hbl hbA hS (law_in (j := 2) hk hL (by decide)) dL_law_922 ?_
    refine z_calli (va_runV (As := [.int (xs ((nI k) + 1).toNatClampNeg), .int (xs ((nI k) + 2).toNatClampNeg)]) (rest := []) ⟨hx, hb, hml, hown, hts⟩ (c6_assign l D cy s.heap.size w y r B (xs ((nI k) + 1).toNatClampNeg) (xs ((nI k) + 2).toNatClampNeg) hJ.1) (cwV 2 hts gL_law_X6_assign rfl rfl rfl (by decide +kernel) ⟨Nat.le_of_ble_eq_true rfl, Nat.le_of_ble_eq_true rfl⟩) (z_preV hA hS hM (m_recv hA hM)) rfl rfl hl.1 rfl (lv_room (Nat.le_of_ble_eq_true rfl)) dL_law_923 ⟨hc, hs⟩) hS (fun r8 B8 H locs hw8 hM hz8 hS => ?_)
    rcases hw8 with ⟨hn8, -, -⟩ | ⟨-, hB8⟩
    · exact absurd hn8 hcd
    rw [hB8] at hM
    refine lv_istore (lv' := [(6, .int r8), (5, .int (cd_assign B (xs ((nI k) + 1).toNatClampNeg) (xs ((nI k) + 2).toNatClampNeg))), (0, .ref b), (1, .ref x), (2, .ref y), (3, .ref o9), (4, .int (nI k))]) hx hb dL_law_926 hl (by decide) rfl (fun ls hl => ?_)
    refine lv_aload_n hx hb dL_law_928 rfl (lv_at hl 4 rfl) ?_
    refine z_calli (va_runV (As := []) (rest := []) ⟨hx, hb, hml, hown, hts⟩ (c6_thrown l D cy s.heap.size w y r (z2 B 27 0 (cd_assign B (xs ((nI k) + 1).toNatClampNeg) (xs ((nI k) + 2).toNatClampNeg)))) (cwV 0 hts gL_law_X6_thrown rfl rfl rfl (by decide +kernel) ⟨Nat.le_of_ble_eq_true rfl, Nat.le_of_ble_eq_true rfl⟩) (z_preV hA hS hM (m_recv hA hM)) rfl rfl hl.1 rfl (lv_room (Nat.le_of_ble_eq_true rfl)) dL_law_929 ⟨hc, hs⟩) hS (fun r7 B7 H locs hw7 hM hz7 hS => ?_)
    obtain ⟨rfl, hB7⟩ := hw7
    rw [hB7] at hM
    obtain ⟨w2, hH, hM2, hF2⟩ := hM
    rw [t27_v]
    have ko2 : zK w2 o9 = 14 := (hF2.1 o9).trans k_o
    have no2 : zN w2 o9 = 1 := (hF2.2.2.1 o9).trans n_o
    refine lv_iload hx hb dL_law_932 (lv_at hl 1 rfl) ?_
    refine lv_icmp_eq (tgt := 939) hx hb dL_law_934 (by decide) (fun c_5 => ?_) (fun c_5 => absurd (rfl) c_5)
    refine lv_iload hx hb dL_law_939 (lv_at hl 1 rfl) ?_
    refine lv_if_ne (tgt := 956) hx hb dL_law_941 (by decide) (fun _ => ?_) (fun h9 => absurd h9 hcd)
    refine lv_goto (tgt := 1431) hx hb dL_law_956 (by decide) ?_
    have hl_6 : lv_has ls 7 [(0, .ref b), (1, .ref x), (2, .ref y), (3, .ref o9), (4, .int (nI k))] := lv_sub hl [2, 3, 4, 5, 6] rfl
    exact kk w2 _ _ _ _ ⟨Rep_mFr (Rep_27 hRep _) hF2, hM2, mJ_27 hJ _, ko2, no2⟩ hH hS hl_6
set_option maxHeartbeats 4000000 in
set_option maxRecDepth 100000 in
theorem law_takeOff {p : Program} {e : Env} {s : State} {m : MethodId} {below : List Frame} {meth : Method} {c : Code} {H : Heap} {locs : List Loc} {cells slots : Nat} {ls : Array Slot} (l : Launch) (hl9 : l.stackTraces = false) {D : va_G} {cy : Nat → ClassId} {b L : Nat} {xs : Nat → Int32} (hL : L ≤ 2560) (C0 : lw_At p s m meth c b L xs) (hA : zA D cy s.heap.size s) {w : zW} {x y o9 : Nat} {r : Nat → Nat} {B : mB} (hI : LI w x y o9 r B) (hH : zH D cy s.heap.size w H) (hS : va_S (fun q : Nat => s.heap.size ≤ q) s.heap H locs) {k : Nat} (hk : k + 5 ≤ L) (hl : lv_has ls 7 [(0, .ref b), (1, .ref x), (2, .ref y), (3, .ref o9), (4, .int (nI k))]) (hc : cells + 8 ≤ 601024) (hs : slots + 100 ≤ 7293034) (kk : ∀ (w1 : zW) (B1 : mB) (H1 : Heap) (locs1 : List Loc) (ls1 : Array Slot), LI w1 x y o9 r B1 → zH D cy s.heap.size w1 H1 → va_S (fun q : Nat => s.heap.size ≤ q) s.heap H1 locs1 → lv_has ls1 7 [(0, .ref b), (1, .ref x), (2, .ref y), (3, .ref o9), (4, .int (nI k))] → W p l e room_1 s m #[Value.ref b] below meth c H1 locs1 (cells + 8) (slots + 100) (lw_Z below #[Value.ref b] s) (F0 m 1431 ls1 [])) : W p l e room_1 s m #[Value.ref b] below meth c H locs cells slots (lw_Z below #[Value.ref b] s) (F0 m 959 ls []) := by
  obtain ⟨hx, hb, hr, hml, hown, hts0, hX, hbl, hlocks, hgv⟩ := id C0
  have hb : c.code = cL_law := hb
  have hown : s.vm.findClass RL = some m.cls := hown
  have hts : ∀ w ∈ wsL_law, w.before #[Value.ref b] s = true := fun w h => hts0 w (wsL_law_in w h)
  have hbA : ¬ (fun q : Nat => s.heap.size ≤ q) b := Nat.not_le.mpr hbl
  obtain ⟨hRep, hM0, hJ, k_o, n_o⟩ := hI
  refine lv_aload_n hx hb dL_law_959 rfl (lv_at hl 1 rfl) ?_
  refine lv_aload_n hx hb dL_law_960 rfl (lv_at hl 0 rfl) ?_
  refine lv_iload hx hb dL_law_961 (lv_at hl 4 rfl) ?_
  refine lv_iconst (v := 1) hx hb dL_law_963 (by decide) ?_
  refine lv_iadd hx hb dL_law_964 ?_
  refine va_sld hx hb hX hbl hbA hS (law_in (j := 1) hk hL (by decide)) dL_law_965 ?_
  refine lv_aload_n hx hb dL_law_966 rfl (lv_at hl 3 rfl) ?_
  refine z_xcalli (vx_runSX (As := [.ref x, .int (xs ((nI k) + 1).toNatClampNeg), .ref o9]) (rest := []) ⟨hx, hb, hml, hown, hts⟩ (zL_takeOff l hl9 D cy s.heap.size w x o9 (z2 B 27 0 0) (xs ((nI k) + 1).toNatClampNeg) k_o n_o (Rep_27 hRep 0) (mJ_27 hJ 0)) (vx_cwSW 3 hts gL_law_L_takeOff rfl rfl rfl (by decide +kernel) ⟨Nat.le_of_ble_eq_true rfl, Nat.le_of_ble_eq_true rfl⟩) (z_preS hA hS hH) rfl rfl hl.1 rfl (lv_room (Nat.le_of_ble_eq_true rfl)) dL_law_967 ⟨hc, hs⟩) hS (fun E9 ce9 q9 u9 H locs hw9 hH hz9 hS hce9 hv9 hcl9 => hw9.elim) (fun r9 u9 H locs hw9 hH hz9 hS => ?_)
  rcases hw9 with ⟨hcd, rfl, hRep1, hG, hJv⟩ | ⟨hcd, rfl, hu9⟩
  · rw [c27_takeOff] at hcd
    have hGo := hG o9 (Or.inr (Or.inr (Or.inr k_o)))
    have hM : mH D cy s.heap.size u9 y r B H := ⟨u9, hH, mRep_g hM0 hG, mFr_rf u9⟩
    refine lv_istore (lv' := [(5, .int 0), (0, .ref b), (1, .ref x), (2, .ref y), (3, .ref o9), (4, .int (nI k))]) hx hb dL_law_970 hl (by decide) rfl (fun ls hl => ?_)
    refine lv_aload_n hx hb dL_law_972 rfl (lv_at hl 3 rfl) ?_
    refine lv_aload_n hx hb dL_law_973 rfl (lv_at hl 1 rfl) ?_
    refine lv_iload hx hb dL_law_974 (lv_at hl 5 rfl) ?_
    refine lv_iconst (v := 1) hx hb dL_law_976 (by decide) ?_
    refine lv_iadd hx hb dL_law_977 ?_
    refine va_sld hx hb hX hbl hbA hS (law_in (j := 1) hk hL (by decide)) dL_law_978 ?_
    refine z_calli (va_runV (As := [.int (xs ((nI k) + 1).toNatClampNeg)]) (rest := []) ⟨hx, hb, hml, hown, hts⟩ (c6_takeOff l D cy s.heap.size u9 y r B (xs ((nI k) + 1).toNatClampNeg) hJ.1) (cwV 1 hts gL_law_X6_takeOff rfl rfl rfl (by decide +kernel) ⟨Nat.le_of_ble_eq_true rfl, Nat.le_of_ble_eq_true rfl⟩) (z_preV hA hS hM (m_recv hA hM)) rfl rfl hl.1 rfl (lv_room (Nat.le_of_ble_eq_true rfl)) dL_law_979 ⟨hc, hs⟩) hS (fun r8 B8 H locs hw8 hM hz8 hS => ?_)
    rcases hw8 with ⟨-, rfl, hB8⟩ | ⟨hn8, -⟩
    rotate_left
    · exact absurd hcd hn8
    rw [hB8] at hM
    refine lv_istore (lv' := [(6, .int (an_of (z2 B 27 0 0) 11 (xs ((nI k) + 1).toNatClampNeg))), (5, .int 0), (0, .ref b), (1, .ref x), (2, .ref y), (3, .ref o9), (4, .int (nI k))]) hx hb dL_law_982 hl (by decide) rfl (fun ls hl => ?_)
    refine lv_aload_n hx hb dL_law_984 rfl (lv_at hl 4 rfl) ?_
    refine z_calli (va_runV (As := []) (rest := []) ⟨hx, hb, hml, hown, hts⟩ (c6_thrown l D cy s.heap.size u9 y r (up_takeOff (z2 B 27 0 0) (xs ((nI k) + 1).toNatClampNeg))) (cwV 0 hts gL_law_X6_thrown rfl rfl rfl (by decide +kernel) ⟨Nat.le_of_ble_eq_true rfl, Nat.le_of_ble_eq_true rfl⟩) (z_preV hA hS hM (m_recv hA hM)) rfl rfl hl.1 rfl (lv_room (Nat.le_of_ble_eq_true rfl)) dL_law_985 ⟨hc, hs⟩) hS (fun r7 B7 H locs hw7 hM hz7 hS => ?_)
    obtain ⟨rfl, hB7⟩ := hw7
    rw [hB7] at hM
    obtain ⟨w2, hH, hM2, hF2⟩ := hM
    rw [t27_takeOff]
    have ko2 : zK w2 o9 = 14 := (hF2.1 o9).trans (hGo.1.trans k_o)
    have no2 : zN w2 o9 = 1 := (hF2.2.2.1 o9).trans (hGo.2.1.trans n_o)
    refine lv_iload hx hb dL_law_988 (lv_at hl 1 rfl) ?_
    refine lv_icmp_eq (tgt := 995) hx hb dL_law_990 (by decide) (fun _ => ?_) (fun c_1 => absurd c_1 (by decide))
    refine lv_iload hx hb dL_law_995 (lv_at hl 1 rfl) ?_
    refine lv_if_ne (tgt := 1012) hx hb dL_law_997 (by decide) (fun c_2 => absurd c_2 (by decide)) (fun _ => ?_)
    refine lv_aload_n hx hb dL_law_1000 rfl (lv_at hl 5 rfl) ?_
    refine lv_iconst (v := 0) hx hb dL_law_1001 (by decide) ?_
    refine z_jald hx hb hA hH (zk0 ko2 (by decide)) (zEn (zE_k14 ko2) no2) 0 rfl (by decide) (by decide) dL_law_1002 ?_
    rw [show zJ w2 o9 0 = ((an_of (z2 B 27 0 0) 11 (xs ((nI k) + 1).toNatClampNeg))).toInt64 from (congrFun (hF2.2.2.2.2.1 o9) 0).trans hJv]
    refine lv_iload hx hb dL_law_1003 (lv_at hl 0 rfl) ?_
    refine lv_i2l (v := ((an_of (z2 B 27 0 0) 11 (xs ((nI k) + 1).toNatClampNeg))).toInt64) hx hb dL_law_1005 rfl ?_
    refine W.lcmp hx hb dL_law_1006 ?_
    rw [lg_self]
    refine lv_if_eq (tgt := 1012) hx hb dL_law_1007 (by decide) (fun _ => ?_) (fun c_3 => absurd c_3 (by decide))
    refine lv_goto (tgt := 1431) hx hb dL_law_1012 (by decide) ?_
    have hl_4 : lv_has ls 7 [(0, .ref b), (1, .ref x), (2, .ref y), (3, .ref o9), (4, .int (nI k))] := lv_sub hl [2, 3, 4, 5, 6] rfl
    exact kk w2 _ _ _ _ ⟨Rep_mFr hRep1 hF2, hM2, (JU_takeOff (mJ_27 hJ 0) (by rw [c27_takeOff]; exact hcd)), ko2, no2⟩ hH hS hl_4
  · rw [c27_takeOff] at hcd ⊢
    rw [hu9] at hH
    have hM : mH D cy s.heap.size w y r B H := ⟨w, hH, hM0, mFr_rf w⟩
    refine lv_istore (lv' := [(5, .int (cd_takeOff B (xs ((nI k) + 1).toNatClampNeg))), (0, .ref b), (1, .ref x), (2, .ref y), (3, .ref o9), (4, .int (nI k))]) hx hb dL_law_970 hl (by decide) rfl (fun ls hl => ?_)
    refine lv_aload_n hx hb dL_law_972 rfl (lv_at hl 3 rfl) ?_
    refine lv_aload_n hx hb dL_law_973 rfl (lv_at hl 1 rfl) ?_
    refine lv_iload hx hb dL_law_974 (lv_at hl 5 rfl) ?_
    refine lv_iconst (v := 1) hx hb dL_law_976 (by decide) ?_
    refine lv_iadd hx hb dL_law_977 ?_
    refine va_sld hx hb hX hbl hbA hS (law_in (j := 1) hk hL (by decide)) dL_law_978 ?_
    refine z_calli (va_runV (As := [.int (xs ((nI k) + 1).toNatClampNeg)]) (rest := []) ⟨hx, hb, hml, hown, hts⟩ (c6_takeOff l D cy s.heap.size w y r B (xs ((nI k) + 1).toNatClampNeg) hJ.1) (cwV 1 hts gL_law_X6_takeOff rfl rfl rfl (by decide +kernel) ⟨Nat.le_of_ble_eq_true rfl, Nat.le_of_ble_eq_true rfl⟩) (z_preV hA hS hM (m_recv hA hM)) rfl rfl hl.1 rfl (lv_room (Nat.le_of_ble_eq_true rfl)) dL_law_979 ⟨hc, hs⟩) hS (fun r8 B8 H locs hw8 hM hz8 hS => ?_)
    rcases hw8 with ⟨hn8, -, -⟩ | ⟨-, hB8⟩
    · exact absurd hn8 hcd
    rw [hB8] at hM
    refine lv_istore (lv' := [(6, .int r8), (5, .int (cd_takeOff B (xs ((nI k) + 1).toNatClampNeg))), (0, .ref b), (1, .ref x), (2, .ref y), (3, .ref o9), (4, .int (nI k))]) hx hb dL_law_982 hl (by decide) rfl (fun ls hl => ?_)
    refine lv_aload_n hx hb dL_law_984 rfl (lv_at hl 4 rfl) ?_
    refine z_calli (va_runV (As := []) (rest := []) ⟨hx, hb, hml, hown, hts⟩ (c6_thrown l D cy s.heap.size w y r (z2 B 27 0 (cd_takeOff B (xs ((nI k) + 1).toNatClampNeg)))) (cwV 0 hts gL_law_X6_thrown rfl rfl rfl (by decide +kernel) ⟨Nat.le_of_ble_eq_true rfl, Nat.le_of_ble_eq_true rfl⟩) (z_preV hA hS hM (m_recv hA hM)) rfl rfl hl.1 rfl (lv_room (Nat.le_of_ble_eq_true rfl)) dL_law_985 ⟨hc, hs⟩) hS (fun r7 B7 H locs hw7 hM hz7 hS => ?_)
    obtain ⟨rfl, hB7⟩ := hw7
    rw [hB7] at hM
    obtain ⟨w2, hH, hM2, hF2⟩ := hM
    rw [t27_v]
    have ko2 : zK w2 o9 = 14 := (hF2.1 o9).trans k_o
    have no2 : zN w2 o9 = 1 := (hF2.2.2.1 o9).trans n_o
    refine lv_iload hx hb dL_law_988 (lv_at hl 1 rfl) ?_
    refine lv_icmp_eq (tgt := 995) hx hb dL_law_990 (by decide) (fun c_5 => ?_) (fun c_5 => absurd (rfl) c_5)
    refine lv_iload hx hb dL_law_995 (lv_at hl 1 rfl) ?_
    refine lv_if_ne (tgt := 1012) hx hb dL_law_997 (by decide) (fun _ => ?_) (fun h9 => absurd h9 hcd)
    refine lv_goto (tgt := 1431) hx hb dL_law_1012 (by decide) ?_
    have hl_6 : lv_has ls 7 [(0, .ref b), (1, .ref x), (2, .ref y), (3, .ref o9), (4, .int (nI k))] := lv_sub hl [2, 3, 4, 5, 6] rfl
    exact kk w2 _ _ _ _ ⟨Rep_mFr (Rep_27 hRep _) hF2, hM2, mJ_27 hJ _, ko2, no2⟩ hH hS hl_6
set_option maxHeartbeats 4000000 in
set_option maxRecDepth 100000 in
theorem law_orderOf {p : Program} {e : Env} {s : State} {m : MethodId} {below : List Frame} {meth : Method} {c : Code} {H : Heap} {locs : List Loc} {cells slots : Nat} {ls : Array Slot} (l : Launch) (hl9 : l.stackTraces = false) {D : va_G} {cy : Nat → ClassId} {b L : Nat} {xs : Nat → Int32} (hL : L ≤ 2560) (C0 : lw_At p s m meth c b L xs) (hA : zA D cy s.heap.size s) {w : zW} {x y o9 : Nat} {r : Nat → Nat} {B : mB} (hI : LI w x y o9 r B) (hH : zH D cy s.heap.size w H) (hS : va_S (fun q : Nat => s.heap.size ≤ q) s.heap H locs) {k : Nat} (hk : k + 5 ≤ L) (hl : lv_has ls 7 [(0, .ref b), (1, .ref x), (2, .ref y), (3, .ref o9), (4, .int (nI k))]) (hc : cells + 8 ≤ 601024) (hs : slots + 100 ≤ 7293034) (kk : ∀ (w1 : zW) (B1 : mB) (H1 : Heap) (locs1 : List Loc) (ls1 : Array Slot), LI w1 x y o9 r B1 → zH D cy s.heap.size w1 H1 → va_S (fun q : Nat => s.heap.size ≤ q) s.heap H1 locs1 → lv_has ls1 7 [(0, .ref b), (1, .ref x), (2, .ref y), (3, .ref o9), (4, .int (nI k))] → W p l e room_1 s m #[Value.ref b] below meth c H1 locs1 (cells + 8) (slots + 100) (lw_Z below #[Value.ref b] s) (F0 m 1431 ls1 [])) : W p l e room_1 s m #[Value.ref b] below meth c H locs cells slots (lw_Z below #[Value.ref b] s) (F0 m 1015 ls []) := by
  obtain ⟨hx, hb, hr, hml, hown, hts0, hX, hbl, hlocks, hgv⟩ := id C0
  have hb : c.code = cL_law := hb
  have hown : s.vm.findClass RL = some m.cls := hown
  have hts : ∀ w ∈ wsL_law, w.before #[Value.ref b] s = true := fun w h => hts0 w (wsL_law_in w h)
  have hbA : ¬ (fun q : Nat => s.heap.size ≤ q) b := Nat.not_le.mpr hbl
  obtain ⟨hRep, hM0, hJ, k_o, n_o⟩ := hI
  refine lv_aload_n hx hb dL_law_1015 rfl (lv_at hl 1 rfl) ?_
  refine lv_aload_n hx hb dL_law_1016 rfl (lv_at hl 0 rfl) ?_
  refine lv_iload hx hb dL_law_1017 (lv_at hl 4 rfl) ?_
  refine lv_iconst (v := 1) hx hb dL_law_1019 (by decide) ?_
  refine lv_iadd hx hb dL_law_1020 ?_
  refine va_sld hx hb hX hbl hbA hS (law_in (j := 1) hk hL (by decide)) dL_law_1021 ?_
  refine lv_aload_n hx hb dL_law_1022 rfl (lv_at hl 3 rfl) ?_
  refine z_xcalli (vx_runSX (As := [.ref x, .int (xs ((nI k) + 1).toNatClampNeg), .ref o9]) (rest := []) ⟨hx, hb, hml, hown, hts⟩ (zL_orderOf l hl9 D cy s.heap.size w x o9 (z2 B 27 0 0) (xs ((nI k) + 1).toNatClampNeg) k_o n_o (Rep_27 hRep 0) (mJ_27 hJ 0)) (vx_cwSW 3 hts gL_law_L_orderOf rfl rfl rfl (by decide +kernel) ⟨Nat.le_of_ble_eq_true rfl, Nat.le_of_ble_eq_true rfl⟩) (z_preS hA hS hH) rfl rfl hl.1 rfl (lv_room (Nat.le_of_ble_eq_true rfl)) dL_law_1023 ⟨hc, hs⟩) hS (fun E9 ce9 q9 u9 H locs hw9 hH hz9 hS hce9 hv9 hcl9 => hw9.elim) (fun r9 u9 H locs hw9 hH hz9 hS => ?_)
  rcases hw9 with ⟨hcd, rfl, hRep1, hG, hJv⟩ | ⟨hcd, rfl, hu9⟩
  · rw [c27_P] at hcd
    have hGo := hG o9 (Or.inr (Or.inr (Or.inr k_o)))
    have hM : mH D cy s.heap.size u9 y r B H := ⟨u9, hH, mRep_g hM0 hG, mFr_rf u9⟩
    refine lv_istore (lv' := [(5, .int 0), (0, .ref b), (1, .ref x), (2, .ref y), (3, .ref o9), (4, .int (nI k))]) hx hb dL_law_1026 hl (by decide) rfl (fun ls hl => ?_)
    refine lv_aload_n hx hb dL_law_1028 rfl (lv_at hl 3 rfl) ?_
    refine lv_aload_n hx hb dL_law_1029 rfl (lv_at hl 1 rfl) ?_
    refine lv_iload hx hb dL_law_1030 (lv_at hl 5 rfl) ?_
    refine lv_iconst (v := 1) hx hb dL_law_1032 (by decide) ?_
    refine lv_iadd hx hb dL_law_1033 ?_
    refine va_sld hx hb hX hbl hbA hS (law_in (j := 1) hk hL (by decide)) dL_law_1034 ?_
    refine z_calli (va_runV (As := [.int (xs ((nI k) + 1).toNatClampNeg)]) (rest := []) ⟨hx, hb, hml, hown, hts⟩ (c6_orderOf l D cy s.heap.size u9 y r B (xs ((nI k) + 1).toNatClampNeg) hJ.1) (cwV 1 hts gL_law_X6_orderOf rfl rfl rfl (by decide +kernel) ⟨Nat.le_of_ble_eq_true rfl, Nat.le_of_ble_eq_true rfl⟩) (z_preV hA hS hM (m_recv hA hM)) rfl rfl hl.1 rfl (lv_room (Nat.le_of_ble_eq_true rfl)) dL_law_1035 ⟨hc, hs⟩) hS (fun r8 B8 H locs hw8 hM hz8 hS => ?_)
    rcases hw8 with ⟨-, rfl, hB8⟩ | ⟨hn8, -⟩
    rotate_left
    · exact absurd hcd hn8
    rw [hB8] at hM
    refine lv_istore (lv' := [(6, .int (an_of (z2 B 27 0 0) 11 (xs ((nI k) + 1).toNatClampNeg))), (5, .int 0), (0, .ref b), (1, .ref x), (2, .ref y), (3, .ref o9), (4, .int (nI k))]) hx hb dL_law_1038 hl (by decide) rfl (fun ls hl => ?_)
    refine lv_aload_n hx hb dL_law_1040 rfl (lv_at hl 4 rfl) ?_
    refine z_calli (va_runV (As := []) (rest := []) ⟨hx, hb, hml, hown, hts⟩ (c6_thrown l D cy s.heap.size u9 y r (z2 B 27 0 0)) (cwV 0 hts gL_law_X6_thrown rfl rfl rfl (by decide +kernel) ⟨Nat.le_of_ble_eq_true rfl, Nat.le_of_ble_eq_true rfl⟩) (z_preV hA hS hM (m_recv hA hM)) rfl rfl hl.1 rfl (lv_room (Nat.le_of_ble_eq_true rfl)) dL_law_1041 ⟨hc, hs⟩) hS (fun r7 B7 H locs hw7 hM hz7 hS => ?_)
    obtain ⟨rfl, hB7⟩ := hw7
    rw [hB7] at hM
    obtain ⟨w2, hH, hM2, hF2⟩ := hM
    rw [t27_0]
    have ko2 : zK w2 o9 = 14 := (hF2.1 o9).trans (hGo.1.trans k_o)
    have no2 : zN w2 o9 = 1 := (hF2.2.2.1 o9).trans (hGo.2.1.trans n_o)
    refine lv_iload hx hb dL_law_1044 (lv_at hl 1 rfl) ?_
    refine lv_icmp_eq (tgt := 1051) hx hb dL_law_1046 (by decide) (fun _ => ?_) (fun c_1 => absurd c_1 (by decide))
    refine lv_iload hx hb dL_law_1051 (lv_at hl 1 rfl) ?_
    refine lv_if_ne (tgt := 1068) hx hb dL_law_1053 (by decide) (fun c_2 => absurd c_2 (by decide)) (fun _ => ?_)
    refine lv_aload_n hx hb dL_law_1056 rfl (lv_at hl 5 rfl) ?_
    refine lv_iconst (v := 0) hx hb dL_law_1057 (by decide) ?_
    refine z_jald hx hb hA hH (zk0 ko2 (by decide)) (zEn (zE_k14 ko2) no2) 0 rfl (by decide) (by decide) dL_law_1058 ?_
    rw [show zJ w2 o9 0 = ((an_of (z2 B 27 0 0) 11 (xs ((nI k) + 1).toNatClampNeg))).toInt64 from (congrFun (hF2.2.2.2.2.1 o9) 0).trans hJv]
    refine lv_iload hx hb dL_law_1059 (lv_at hl 0 rfl) ?_
    refine lv_i2l (v := ((an_of (z2 B 27 0 0) 11 (xs ((nI k) + 1).toNatClampNeg))).toInt64) hx hb dL_law_1061 rfl ?_
    refine W.lcmp hx hb dL_law_1062 ?_
    rw [lg_self]
    refine lv_if_eq (tgt := 1068) hx hb dL_law_1063 (by decide) (fun _ => ?_) (fun c_3 => absurd c_3 (by decide))
    refine lv_goto (tgt := 1431) hx hb dL_law_1068 (by decide) ?_
    have hl_4 : lv_has ls 7 [(0, .ref b), (1, .ref x), (2, .ref y), (3, .ref o9), (4, .int (nI k))] := lv_sub hl [2, 3, 4, 5, 6] rfl
    exact kk w2 _ _ _ _ ⟨Rep_mFr hRep1 hF2, hM2, (mJ_27 hJ 0), ko2, no2⟩ hH hS hl_4
  · rw [c27_P] at hcd ⊢
    rw [hu9] at hH
    have hM : mH D cy s.heap.size w y r B H := ⟨w, hH, hM0, mFr_rf w⟩
    refine lv_istore (lv' := [(5, .int (cd_P B (xs ((nI k) + 1).toNatClampNeg))), (0, .ref b), (1, .ref x), (2, .ref y), (3, .ref o9), (4, .int (nI k))]) hx hb dL_law_1026 hl (by decide) rfl (fun ls hl => ?_)
    refine lv_aload_n hx hb dL_law_1028 rfl (lv_at hl 3 rfl) ?_
    refine lv_aload_n hx hb dL_law_1029 rfl (lv_at hl 1 rfl) ?_
    refine lv_iload hx hb dL_law_1030 (lv_at hl 5 rfl) ?_
    refine lv_iconst (v := 1) hx hb dL_law_1032 (by decide) ?_
    refine lv_iadd hx hb dL_law_1033 ?_
    refine va_sld hx hb hX hbl hbA hS (law_in (j := 1) hk hL (by decide)) dL_law_1034 ?_
    refine z_calli (va_runV (As := [.int (xs ((nI k) + 1).toNatClampNeg)]) (rest := []) ⟨hx, hb, hml, hown, hts⟩ (c6_orderOf l D cy s.heap.size w y r B (xs ((nI k) + 1).toNatClampNeg) hJ.1) (cwV 1 hts gL_law_X6_orderOf rfl rfl rfl (by decide +kernel) ⟨Nat.le_of_ble_eq_true rfl, Nat.le_of_ble_eq_true rfl⟩) (z_preV hA hS hM (m_recv hA hM)) rfl rfl hl.1 rfl (lv_room (Nat.le_of_ble_eq_true rfl)) dL_law_1035 ⟨hc, hs⟩) hS (fun r8 B8 H locs hw8 hM hz8 hS => ?_)
    rcases hw8 with ⟨hn8, -, -⟩ | ⟨-, hB8⟩
    · exact absurd hn8 hcd
    rw [hB8] at hM
    refine lv_istore (lv' := [(6, .int r8), (5, .int (cd_P B (xs ((nI k) + 1).toNatClampNeg))), (0, .ref b), (1, .ref x), (2, .ref y), (3, .ref o9), (4, .int (nI k))]) hx hb dL_law_1038 hl (by decide) rfl (fun ls hl => ?_)
    refine lv_aload_n hx hb dL_law_1040 rfl (lv_at hl 4 rfl) ?_
    refine z_calli (va_runV (As := []) (rest := []) ⟨hx, hb, hml, hown, hts⟩ (c6_thrown l D cy s.heap.size w y r (z2 B 27 0 (cd_P B (xs ((nI k) + 1).toNatClampNeg)))) (cwV 0 hts gL_law_X6_thrown rfl rfl rfl (by decide +kernel) ⟨Nat.le_of_ble_eq_true rfl, Nat.le_of_ble_eq_true rfl⟩) (z_preV hA hS hM (m_recv hA hM)) rfl rfl hl.1 rfl (lv_room (Nat.le_of_ble_eq_true rfl)) dL_law_1041 ⟨hc, hs⟩) hS (fun r7 B7 H locs hw7 hM hz7 hS => ?_)
    obtain ⟨rfl, hB7⟩ := hw7
    rw [hB7] at hM
    obtain ⟨w2, hH, hM2, hF2⟩ := hM
    rw [t27_v]
    have ko2 : zK w2 o9 = 14 := (hF2.1 o9).trans k_o
    have no2 : zN w2 o9 = 1 := (hF2.2.2.1 o9).trans n_o
    refine lv_iload hx hb dL_law_1044 (lv_at hl 1 rfl) ?_
    refine lv_icmp_eq (tgt := 1051) hx hb dL_law_1046 (by decide) (fun c_5 => ?_) (fun c_5 => absurd (rfl) c_5)
    refine lv_iload hx hb dL_law_1051 (lv_at hl 1 rfl) ?_
    refine lv_if_ne (tgt := 1068) hx hb dL_law_1053 (by decide) (fun _ => ?_) (fun h9 => absurd h9 hcd)
    refine lv_goto (tgt := 1431) hx hb dL_law_1068 (by decide) ?_
    have hl_6 : lv_has ls 7 [(0, .ref b), (1, .ref x), (2, .ref y), (3, .ref o9), (4, .int (nI k))] := lv_sub hl [2, 3, 4, 5, 6] rfl
    exact kk w2 _ _ _ _ ⟨Rep_mFr (Rep_27 hRep _) hF2, hM2, mJ_27 hJ _, ko2, no2⟩ hH hS hl_6
set_option maxHeartbeats 4000000 in
set_option maxRecDepth 100000 in
theorem law_left {p : Program} {e : Env} {s : State} {m : MethodId} {below : List Frame} {meth : Method} {c : Code} {H : Heap} {locs : List Loc} {cells slots : Nat} {ls : Array Slot} (l : Launch) (hl9 : l.stackTraces = false) {D : va_G} {cy : Nat → ClassId} {b L : Nat} {xs : Nat → Int32} (hL : L ≤ 2560) (C0 : lw_At p s m meth c b L xs) (hA : zA D cy s.heap.size s) {w : zW} {x y o9 : Nat} {r : Nat → Nat} {B : mB} (hI : LI w x y o9 r B) (hH : zH D cy s.heap.size w H) (hS : va_S (fun q : Nat => s.heap.size ≤ q) s.heap H locs) {k : Nat} (hk : k + 5 ≤ L) (hl : lv_has ls 7 [(0, .ref b), (1, .ref x), (2, .ref y), (3, .ref o9), (4, .int (nI k))]) (hc : cells + 8 ≤ 601024) (hs : slots + 100 ≤ 7293034) (kk : ∀ (w1 : zW) (B1 : mB) (H1 : Heap) (locs1 : List Loc) (ls1 : Array Slot), LI w1 x y o9 r B1 → zH D cy s.heap.size w1 H1 → va_S (fun q : Nat => s.heap.size ≤ q) s.heap H1 locs1 → lv_has ls1 7 [(0, .ref b), (1, .ref x), (2, .ref y), (3, .ref o9), (4, .int (nI k))] → W p l e room_1 s m #[Value.ref b] below meth c H1 locs1 (cells + 8) (slots + 100) (lw_Z below #[Value.ref b] s) (F0 m 1431 ls1 [])) : W p l e room_1 s m #[Value.ref b] below meth c H locs cells slots (lw_Z below #[Value.ref b] s) (F0 m 1071 ls []) := by
  obtain ⟨hx, hb, hr, hml, hown, hts0, hX, hbl, hlocks, hgv⟩ := id C0
  have hb : c.code = cL_law := hb
  have hown : s.vm.findClass RL = some m.cls := hown
  have hts : ∀ w ∈ wsL_law, w.before #[Value.ref b] s = true := fun w h => hts0 w (wsL_law_in w h)
  have hbA : ¬ (fun q : Nat => s.heap.size ≤ q) b := Nat.not_le.mpr hbl
  obtain ⟨hRep, hM0, hJ, k_o, n_o⟩ := hI
  refine lv_aload_n hx hb dL_law_1071 rfl (lv_at hl 1 rfl) ?_
  refine lv_aload_n hx hb dL_law_1072 rfl (lv_at hl 0 rfl) ?_
  refine lv_iload hx hb dL_law_1073 (lv_at hl 4 rfl) ?_
  refine lv_iconst (v := 1) hx hb dL_law_1075 (by decide) ?_
  refine lv_iadd hx hb dL_law_1076 ?_
  refine va_sld hx hb hX hbl hbA hS (law_in (j := 1) hk hL (by decide)) dL_law_1077 ?_
  refine lv_aload_n hx hb dL_law_1078 rfl (lv_at hl 3 rfl) ?_
  refine z_xcalli (vx_runSX (As := [.ref x, .int (xs ((nI k) + 1).toNatClampNeg), .ref o9]) (rest := []) ⟨hx, hb, hml, hown, hts⟩ (zL_left l hl9 D cy s.heap.size w x o9 (z2 B 27 0 0) (xs ((nI k) + 1).toNatClampNeg) k_o n_o (Rep_27 hRep 0) (mJ_27 hJ 0)) (vx_cwSW 3 hts gL_law_L_left rfl rfl rfl (by decide +kernel) ⟨Nat.le_of_ble_eq_true rfl, Nat.le_of_ble_eq_true rfl⟩) (z_preS hA hS hH) rfl rfl hl.1 rfl (lv_room (Nat.le_of_ble_eq_true rfl)) dL_law_1079 ⟨hc, hs⟩) hS (fun E9 ce9 q9 u9 H locs hw9 hH hz9 hS hce9 hv9 hcl9 => hw9.elim) (fun r9 u9 H locs hw9 hH hz9 hS => ?_)
  rcases hw9 with ⟨hcd, rfl, hRep1, hG, hJv⟩ | ⟨hcd, rfl, hu9⟩
  · rw [c27_O] at hcd
    have hGo := hG o9 (Or.inr (Or.inr (Or.inr k_o)))
    have hM : mH D cy s.heap.size u9 y r B H := ⟨u9, hH, mRep_g hM0 hG, mFr_rf u9⟩
    refine lv_istore (lv' := [(5, .int 0), (0, .ref b), (1, .ref x), (2, .ref y), (3, .ref o9), (4, .int (nI k))]) hx hb dL_law_1082 hl (by decide) rfl (fun ls hl => ?_)
    refine lv_aload_n hx hb dL_law_1084 rfl (lv_at hl 3 rfl) ?_
    refine lv_aload_n hx hb dL_law_1085 rfl (lv_at hl 1 rfl) ?_
    refine lv_iload hx hb dL_law_1086 (lv_at hl 5 rfl) ?_
    refine lv_iconst (v := 1) hx hb dL_law_1088 (by decide) ?_
    refine lv_iadd hx hb dL_law_1089 ?_
    refine va_sld hx hb hX hbl hbA hS (law_in (j := 1) hk hL (by decide)) dL_law_1090 ?_
    refine z_calli (va_runV (As := [.int (xs ((nI k) + 1).toNatClampNeg)]) (rest := []) ⟨hx, hb, hml, hown, hts⟩ (c6_left l D cy s.heap.size u9 y r B (xs ((nI k) + 1).toNatClampNeg) hJ.1) (cwV 1 hts gL_law_X6_left rfl rfl rfl (by decide +kernel) ⟨Nat.le_of_ble_eq_true rfl, Nat.le_of_ble_eq_true rfl⟩) (z_preV hA hS hM (m_recv hA hM)) rfl rfl hl.1 rfl (lv_room (Nat.le_of_ble_eq_true rfl)) dL_law_1091 ⟨hc, hs⟩) hS (fun r8 B8 H locs hw8 hM hz8 hS => ?_)
    rcases hw8 with ⟨-, rfl, hB8⟩ | ⟨hn8, -⟩
    rotate_left
    · exact absurd hcd hn8
    rw [hB8] at hM
    refine lv_istore (lv' := [(6, .int (an_of (z2 B 27 0 0) 25 (xs ((nI k) + 1).toNatClampNeg))), (5, .int 0), (0, .ref b), (1, .ref x), (2, .ref y), (3, .ref o9), (4, .int (nI k))]) hx hb dL_law_1094 hl (by decide) rfl (fun ls hl => ?_)
    refine lv_aload_n hx hb dL_law_1096 rfl (lv_at hl 4 rfl) ?_
    refine z_calli (va_runV (As := []) (rest := []) ⟨hx, hb, hml, hown, hts⟩ (c6_thrown l D cy s.heap.size u9 y r (z2 B 27 0 0)) (cwV 0 hts gL_law_X6_thrown rfl rfl rfl (by decide +kernel) ⟨Nat.le_of_ble_eq_true rfl, Nat.le_of_ble_eq_true rfl⟩) (z_preV hA hS hM (m_recv hA hM)) rfl rfl hl.1 rfl (lv_room (Nat.le_of_ble_eq_true rfl)) dL_law_1097 ⟨hc, hs⟩) hS (fun r7 B7 H locs hw7 hM hz7 hS => ?_)
    obtain ⟨rfl, hB7⟩ := hw7
    rw [hB7] at hM
    obtain ⟨w2, hH, hM2, hF2⟩ := hM
    rw [t27_0]
    have ko2 : zK w2 o9 = 14 := (hF2.1 o9).trans (hGo.1.trans k_o)
    have no2 : zN w2 o9 = 1 := (hF2.2.2.1 o9).trans (hGo.2.1.trans n_o)
    refine lv_iload hx hb dL_law_1100 (lv_at hl 1 rfl) ?_
    refine lv_icmp_eq (tgt := 1107) hx hb dL_law_1102 (by decide) (fun _ => ?_) (fun c_1 => absurd c_1 (by decide))
    refine lv_iload hx hb dL_law_1107 (lv_at hl 1 rfl) ?_
    refine lv_if_ne (tgt := 1124) hx hb dL_law_1109 (by decide) (fun c_2 => absurd c_2 (by decide)) (fun _ => ?_)
    refine lv_aload_n hx hb dL_law_1112 rfl (lv_at hl 5 rfl) ?_
    refine lv_iconst (v := 0) hx hb dL_law_1113 (by decide) ?_
    refine z_jald hx hb hA hH (zk0 ko2 (by decide)) (zEn (zE_k14 ko2) no2) 0 rfl (by decide) (by decide) dL_law_1114 ?_
    rw [show zJ w2 o9 0 = ((an_of (z2 B 27 0 0) 25 (xs ((nI k) + 1).toNatClampNeg))).toInt64 from (congrFun (hF2.2.2.2.2.1 o9) 0).trans hJv]
    refine lv_iload hx hb dL_law_1115 (lv_at hl 0 rfl) ?_
    refine lv_i2l (v := ((an_of (z2 B 27 0 0) 25 (xs ((nI k) + 1).toNatClampNeg))).toInt64) hx hb dL_law_1117 rfl ?_
    refine W.lcmp hx hb dL_law_1118 ?_
    rw [lg_self]
    refine lv_if_eq (tgt := 1124) hx hb dL_law_1119 (by decide) (fun _ => ?_) (fun c_3 => absurd c_3 (by decide))
    refine lv_goto (tgt := 1431) hx hb dL_law_1124 (by decide) ?_
    have hl_4 : lv_has ls 7 [(0, .ref b), (1, .ref x), (2, .ref y), (3, .ref o9), (4, .int (nI k))] := lv_sub hl [2, 3, 4, 5, 6] rfl
    exact kk w2 _ _ _ _ ⟨Rep_mFr hRep1 hF2, hM2, (mJ_27 hJ 0), ko2, no2⟩ hH hS hl_4
  · rw [c27_O] at hcd ⊢
    rw [hu9] at hH
    have hM : mH D cy s.heap.size w y r B H := ⟨w, hH, hM0, mFr_rf w⟩
    refine lv_istore (lv' := [(5, .int (cd_O B (xs ((nI k) + 1).toNatClampNeg))), (0, .ref b), (1, .ref x), (2, .ref y), (3, .ref o9), (4, .int (nI k))]) hx hb dL_law_1082 hl (by decide) rfl (fun ls hl => ?_)
    refine lv_aload_n hx hb dL_law_1084 rfl (lv_at hl 3 rfl) ?_
    refine lv_aload_n hx hb dL_law_1085 rfl (lv_at hl 1 rfl) ?_
    refine lv_iload hx hb dL_law_1086 (lv_at hl 5 rfl) ?_
    refine lv_iconst (v := 1) hx hb dL_law_1088 (by decide) ?_
    refine lv_iadd hx hb dL_law_1089 ?_
    refine va_sld hx hb hX hbl hbA hS (law_in (j := 1) hk hL (by decide)) dL_law_1090 ?_
    refine z_calli (va_runV (As := [.int (xs ((nI k) + 1).toNatClampNeg)]) (rest := []) ⟨hx, hb, hml, hown, hts⟩ (c6_left l D cy s.heap.size w y r B (xs ((nI k) + 1).toNatClampNeg) hJ.1) (cwV 1 hts gL_law_X6_left rfl rfl rfl (by decide +kernel) ⟨Nat.le_of_ble_eq_true rfl, Nat.le_of_ble_eq_true rfl⟩) (z_preV hA hS hM (m_recv hA hM)) rfl rfl hl.1 rfl (lv_room (Nat.le_of_ble_eq_true rfl)) dL_law_1091 ⟨hc, hs⟩) hS (fun r8 B8 H locs hw8 hM hz8 hS => ?_)
    rcases hw8 with ⟨hn8, -, -⟩ | ⟨-, hB8⟩
    · exact absurd hn8 hcd
    rw [hB8] at hM
    refine lv_istore (lv' := [(6, .int r8), (5, .int (cd_O B (xs ((nI k) + 1).toNatClampNeg))), (0, .ref b), (1, .ref x), (2, .ref y), (3, .ref o9), (4, .int (nI k))]) hx hb dL_law_1094 hl (by decide) rfl (fun ls hl => ?_)
    refine lv_aload_n hx hb dL_law_1096 rfl (lv_at hl 4 rfl) ?_
    refine z_calli (va_runV (As := []) (rest := []) ⟨hx, hb, hml, hown, hts⟩ (c6_thrown l D cy s.heap.size w y r (z2 B 27 0 (cd_O B (xs ((nI k) + 1).toNatClampNeg)))) (cwV 0 hts gL_law_X6_thrown rfl rfl rfl (by decide +kernel) ⟨Nat.le_of_ble_eq_true rfl, Nat.le_of_ble_eq_true rfl⟩) (z_preV hA hS hM (m_recv hA hM)) rfl rfl hl.1 rfl (lv_room (Nat.le_of_ble_eq_true rfl)) dL_law_1097 ⟨hc, hs⟩) hS (fun r7 B7 H locs hw7 hM hz7 hS => ?_)
    obtain ⟨rfl, hB7⟩ := hw7
    rw [hB7] at hM
    obtain ⟨w2, hH, hM2, hF2⟩ := hM
    rw [t27_v]
    have ko2 : zK w2 o9 = 14 := (hF2.1 o9).trans k_o
    have no2 : zN w2 o9 = 1 := (hF2.2.2.1 o9).trans n_o
    refine lv_iload hx hb dL_law_1100 (lv_at hl 1 rfl) ?_
    refine lv_icmp_eq (tgt := 1107) hx hb dL_law_1102 (by decide) (fun c_5 => ?_) (fun c_5 => absurd (rfl) c_5)
    refine lv_iload hx hb dL_law_1107 (lv_at hl 1 rfl) ?_
    refine lv_if_ne (tgt := 1124) hx hb dL_law_1109 (by decide) (fun _ => ?_) (fun h9 => absurd h9 hcd)
    refine lv_goto (tgt := 1431) hx hb dL_law_1124 (by decide) ?_
    have hl_6 : lv_has ls 7 [(0, .ref b), (1, .ref x), (2, .ref y), (3, .ref o9), (4, .int (nI k))] := lv_sub hl [2, 3, 4, 5, 6] rfl
    exact kk w2 _ _ _ _ ⟨Rep_mFr (Rep_27 hRep _) hF2, hM2, mJ_27 hJ _, ko2, no2⟩ hH hS hl_6
set_option maxHeartbeats 4000000 in
set_option maxRecDepth 100000 in
theorem law_account {p : Program} {e : Env} {s : State} {m : MethodId} {below : List Frame} {meth : Method} {c : Code} {H : Heap} {locs : List Loc} {cells slots : Nat} {ls : Array Slot} (l : Launch) (hl9 : l.stackTraces = false) {D : va_G} {cy : Nat → ClassId} {b L : Nat} {xs : Nat → Int32} (hL : L ≤ 2560) (C0 : lw_At p s m meth c b L xs) (hA : zA D cy s.heap.size s) {w : zW} {x y o9 : Nat} {r : Nat → Nat} {B : mB} (hI : LI w x y o9 r B) (hH : zH D cy s.heap.size w H) (hS : va_S (fun q : Nat => s.heap.size ≤ q) s.heap H locs) {k : Nat} (hk : k + 5 ≤ L) (hl : lv_has ls 7 [(0, .ref b), (1, .ref x), (2, .ref y), (3, .ref o9), (4, .int (nI k))]) (hc : cells + 8 ≤ 601024) (hs : slots + 100 ≤ 7293034) (kk : ∀ (w1 : zW) (B1 : mB) (H1 : Heap) (locs1 : List Loc) (ls1 : Array Slot), LI w1 x y o9 r B1 → zH D cy s.heap.size w1 H1 → va_S (fun q : Nat => s.heap.size ≤ q) s.heap H1 locs1 → lv_has ls1 7 [(0, .ref b), (1, .ref x), (2, .ref y), (3, .ref o9), (4, .int (nI k))] → W p l e room_1 s m #[Value.ref b] below meth c H1 locs1 (cells + 8) (slots + 100) (lw_Z below #[Value.ref b] s) (F0 m 1431 ls1 [])) : W p l e room_1 s m #[Value.ref b] below meth c H locs cells slots (lw_Z below #[Value.ref b] s) (F0 m 1127 ls []) := by
  obtain ⟨hx, hb, hr, hml, hown, hts0, hX, hbl, hlocks, hgv⟩ := id C0
  have hb : c.code = cL_law := hb
  have hown : s.vm.findClass RL = some m.cls := hown
  have hts : ∀ w ∈ wsL_law, w.before #[Value.ref b] s = true := fun w h => hts0 w (wsL_law_in w h)
  have hbA : ¬ (fun q : Nat => s.heap.size ≤ q) b := Nat.not_le.mpr hbl
  obtain ⟨hRep, hM0, hJ, k_o, n_o⟩ := hI
  refine lv_aload_n hx hb dL_law_1127 rfl (lv_at hl 1 rfl) ?_
  refine lv_aload_n hx hb dL_law_1128 rfl (lv_at hl 0 rfl) ?_
  refine lv_iload hx hb dL_law_1129 (lv_at hl 4 rfl) ?_
  refine lv_iconst (v := 1) hx hb dL_law_1131 (by decide) ?_
  refine lv_iadd hx hb dL_law_1132 ?_
  refine va_sld hx hb hX hbl hbA hS (law_in (j := 1) hk hL (by decide)) dL_law_1133 ?_
  refine lv_aload_n hx hb dL_law_1134 rfl (lv_at hl 0 rfl) ?_
  refine lv_iload hx hb dL_law_1135 (lv_at hl 4 rfl) ?_
  refine lv_iconst (v := 2) hx hb dL_law_1137 (by decide) ?_
  refine lv_iadd hx hb dL_law_1138 ?_
  refine va_sld hx hb hX hbl hbA hS (law_in (j := 2) hk hL (by decide)) dL_law_1139 ?_
  refine lv_aload_n hx hb dL_law_1140 rfl (lv_at hl 3 rfl) ?_
  refine z_xcalli (vx_runSX (As := [.ref x, .int (xs ((nI k) + 1).toNatClampNeg), .int (xs ((nI k) + 2).toNatClampNeg), .ref o9]) (rest := []) ⟨hx, hb, hml, hown, hts⟩ (zL_account l hl9 D cy s.heap.size w x o9 (z2 B 27 0 0) (xs ((nI k) + 1).toNatClampNeg) (xs ((nI k) + 2).toNatClampNeg) k_o n_o (Rep_27 hRep 0) (mJ_27 hJ 0)) (vx_cwSW 4 hts gL_law_L_account rfl rfl rfl (by decide +kernel) ⟨Nat.le_of_ble_eq_true rfl, Nat.le_of_ble_eq_true rfl⟩) (z_preS hA hS hH) rfl rfl hl.1 rfl (lv_room (Nat.le_of_ble_eq_true rfl)) dL_law_1141 ⟨hc, hs⟩) hS (fun E9 ce9 q9 u9 H locs hw9 hH hz9 hS hce9 hv9 hcl9 => hw9.elim) (fun r9 u9 H locs hw9 hH hz9 hS => ?_)
  rcases hw9 with ⟨hcd, rfl, hRep1, hG, hJv⟩ | ⟨hcd, rfl, hu9⟩
  · rw [c27_account] at hcd
    have hGo := hG o9 (Or.inr (Or.inr (Or.inr k_o)))
    have hM : mH D cy s.heap.size u9 y r B H := ⟨u9, hH, mRep_g hM0 hG, mFr_rf u9⟩
    refine lv_istore (lv' := [(5, .int 0), (0, .ref b), (1, .ref x), (2, .ref y), (3, .ref o9), (4, .int (nI k))]) hx hb dL_law_1144 hl (by decide) rfl (fun ls hl => ?_)
    refine lv_aload_n hx hb dL_law_1146 rfl (lv_at hl 3 rfl) ?_
    refine lv_aload_n hx hb dL_law_1147 rfl (lv_at hl 1 rfl) ?_
    refine lv_iload hx hb dL_law_1148 (lv_at hl 5 rfl) ?_
    refine lv_iconst (v := 1) hx hb dL_law_1150 (by decide) ?_
    refine lv_iadd hx hb dL_law_1151 ?_
    refine va_sld hx hb hX hbl hbA hS (law_in (j := 1) hk hL (by decide)) dL_law_1152 ?_
    refine lv_aload_n hx hb dL_law_1153 rfl (lv_at hl 1 rfl) ?_
    refine lv_iload hx hb dL_law_1154 (lv_at hl 5 rfl) ?_
    refine lv_iconst (v := 2) hx hb dL_law_1156 (by decide) ?_
    refine lv_iadd hx hb dL_law_1157 ?_
    refine va_sld hx hb hX hbl hbA hS (law_in (j := 2) hk hL (by decide)) dL_law_1158 ?_
    refine z_calli (va_runV (As := [.int (xs ((nI k) + 1).toNatClampNeg), .int (xs ((nI k) + 2).toNatClampNeg)]) (rest := []) ⟨hx, hb, hml, hown, hts⟩ (c6_account l D cy s.heap.size u9 y r B (xs ((nI k) + 1).toNatClampNeg) (xs ((nI k) + 2).toNatClampNeg) hJ.1) (cwV 2 hts gL_law_X6_account rfl rfl rfl (by decide +kernel) ⟨Nat.le_of_ble_eq_true rfl, Nat.le_of_ble_eq_true rfl⟩) (z_preV hA hS hM (m_recv hA hM)) rfl rfl hl.1 rfl (lv_room (Nat.le_of_ble_eq_true rfl)) dL_law_1159 ⟨hc, hs⟩) hS (fun r8 B8 H locs hw8 hM hz8 hS => ?_)
    rcases hw8 with ⟨-, rfl, hB8⟩ | ⟨hn8, -⟩
    rotate_left
    · exact absurd hcd hn8
    rw [hB8] at hM
    refine lv_istore (lv' := [(6, .int (an_account (z2 B 27 0 0) (xs ((nI k) + 1).toNatClampNeg) (xs ((nI k) + 2).toNatClampNeg))), (5, .int 0), (0, .ref b), (1, .ref x), (2, .ref y), (3, .ref o9), (4, .int (nI k))]) hx hb dL_law_1162 hl (by decide) rfl (fun ls hl => ?_)
    refine lv_aload_n hx hb dL_law_1164 rfl (lv_at hl 4 rfl) ?_
    refine z_calli (va_runV (As := []) (rest := []) ⟨hx, hb, hml, hown, hts⟩ (c6_thrown l D cy s.heap.size u9 y r (z2 B 27 0 0)) (cwV 0 hts gL_law_X6_thrown rfl rfl rfl (by decide +kernel) ⟨Nat.le_of_ble_eq_true rfl, Nat.le_of_ble_eq_true rfl⟩) (z_preV hA hS hM (m_recv hA hM)) rfl rfl hl.1 rfl (lv_room (Nat.le_of_ble_eq_true rfl)) dL_law_1165 ⟨hc, hs⟩) hS (fun r7 B7 H locs hw7 hM hz7 hS => ?_)
    obtain ⟨rfl, hB7⟩ := hw7
    rw [hB7] at hM
    obtain ⟨w2, hH, hM2, hF2⟩ := hM
    rw [t27_0]
    have ko2 : zK w2 o9 = 14 := (hF2.1 o9).trans (hGo.1.trans k_o)
    have no2 : zN w2 o9 = 1 := (hF2.2.2.1 o9).trans (hGo.2.1.trans n_o)
    refine lv_iload hx hb dL_law_1168 (lv_at hl 1 rfl) ?_
    refine lv_icmp_eq (tgt := 1175) hx hb dL_law_1170 (by decide) (fun _ => ?_) (fun c_1 => absurd c_1 (by decide))
    refine lv_iload hx hb dL_law_1175 (lv_at hl 1 rfl) ?_
    refine lv_if_ne (tgt := 1192) hx hb dL_law_1177 (by decide) (fun c_2 => absurd c_2 (by decide)) (fun _ => ?_)
    refine lv_aload_n hx hb dL_law_1180 rfl (lv_at hl 5 rfl) ?_
    refine lv_iconst (v := 0) hx hb dL_law_1181 (by decide) ?_
    refine z_jald hx hb hA hH (zk0 ko2 (by decide)) (zEn (zE_k14 ko2) no2) 0 rfl (by decide) (by decide) dL_law_1182 ?_
    rw [show zJ w2 o9 0 = ((an_account (z2 B 27 0 0) (xs ((nI k) + 1).toNatClampNeg) (xs ((nI k) + 2).toNatClampNeg))).toInt64 from (congrFun (hF2.2.2.2.2.1 o9) 0).trans hJv]
    refine lv_iload hx hb dL_law_1183 (lv_at hl 0 rfl) ?_
    refine lv_i2l (v := ((an_account (z2 B 27 0 0) (xs ((nI k) + 1).toNatClampNeg) (xs ((nI k) + 2).toNatClampNeg))).toInt64) hx hb dL_law_1185 rfl ?_
    refine W.lcmp hx hb dL_law_1186 ?_
    rw [lg_self]
    refine lv_if_eq (tgt := 1192) hx hb dL_law_1187 (by decide) (fun _ => ?_) (fun c_3 => absurd c_3 (by decide))
    refine lv_goto (tgt := 1431) hx hb dL_law_1192 (by decide) ?_
    have hl_4 : lv_has ls 7 [(0, .ref b), (1, .ref x), (2, .ref y), (3, .ref o9), (4, .int (nI k))] := lv_sub hl [2, 3, 4, 5, 6] rfl
    exact kk w2 _ _ _ _ ⟨Rep_mFr hRep1 hF2, hM2, (mJ_27 hJ 0), ko2, no2⟩ hH hS hl_4
  · rw [c27_account] at hcd ⊢
    rw [hu9] at hH
    have hM : mH D cy s.heap.size w y r B H := ⟨w, hH, hM0, mFr_rf w⟩
    refine lv_istore (lv' := [(5, .int (cd_account B (xs ((nI k) + 1).toNatClampNeg) (xs ((nI k) + 2).toNatClampNeg))), (0, .ref b), (1, .ref x), (2, .ref y), (3, .ref o9), (4, .int (nI k))]) hx hb dL_law_1144 hl (by decide) rfl (fun ls hl => ?_)
    refine lv_aload_n hx hb dL_law_1146 rfl (lv_at hl 3 rfl) ?_
    refine lv_aload_n hx hb dL_law_1147 rfl (lv_at hl 1 rfl) ?_
    refine lv_iload hx hb dL_law_1148 (lv_at hl 5 rfl) ?_
    refine lv_iconst (v := 1) hx hb dL_law_1150 (by decide) ?_
    refine lv_iadd hx hb dL_law_1151 ?_
    refine va_sld hx hb hX hbl hbA hS (law_in (j := 1) hk hL (by decide)) dL_law_1152 ?_
    refine lv_aload_n hx hb dL_law_1153 rfl (lv_at hl 1 rfl) ?_
    refine lv_iload hx hb dL_law_1154 (lv_at hl 5 rfl) ?_
    refine lv_iconst (v := 2) hx hb dL_law_1156 (by decide) ?_
    refine lv_iadd hx hb dL_law_1157 ?_
    refine va_sld hx hb hX hbl hbA hS (law_in (j := 2) hk hL (by decide)) dL_law_1158 ?_
    refine z_calli (va_runV (As := [.int (xs ((nI k) + 1).toNatClampNeg), .int (xs ((nI k) + 2).toNatClampNeg)]) (rest := []) ⟨hx, hb, hml, hown, hts⟩ (c6_account l D cy s.heap.size w y r B (xs ((nI k) + 1).toNatClampNeg) (xs ((nI k) + 2).toNatClampNeg) hJ.1) (cwV 2 hts gL_law_X6_account rfl rfl rfl (by decide +kernel) ⟨Nat.le_of_ble_eq_true rfl, Nat.le_of_ble_eq_true rfl⟩) (z_preV hA hS hM (m_recv hA hM)) rfl rfl hl.1 rfl (lv_room (Nat.le_of_ble_eq_true rfl)) dL_law_1159 ⟨hc, hs⟩) hS (fun r8 B8 H locs hw8 hM hz8 hS => ?_)
    rcases hw8 with ⟨hn8, -, -⟩ | ⟨-, hB8⟩
    · exact absurd hn8 hcd
    rw [hB8] at hM
    refine lv_istore (lv' := [(6, .int r8), (5, .int (cd_account B (xs ((nI k) + 1).toNatClampNeg) (xs ((nI k) + 2).toNatClampNeg))), (0, .ref b), (1, .ref x), (2, .ref y), (3, .ref o9), (4, .int (nI k))]) hx hb dL_law_1162 hl (by decide) rfl (fun ls hl => ?_)
    refine lv_aload_n hx hb dL_law_1164 rfl (lv_at hl 4 rfl) ?_
    refine z_calli (va_runV (As := []) (rest := []) ⟨hx, hb, hml, hown, hts⟩ (c6_thrown l D cy s.heap.size w y r (z2 B 27 0 (cd_account B (xs ((nI k) + 1).toNatClampNeg) (xs ((nI k) + 2).toNatClampNeg)))) (cwV 0 hts gL_law_X6_thrown rfl rfl rfl (by decide +kernel) ⟨Nat.le_of_ble_eq_true rfl, Nat.le_of_ble_eq_true rfl⟩) (z_preV hA hS hM (m_recv hA hM)) rfl rfl hl.1 rfl (lv_room (Nat.le_of_ble_eq_true rfl)) dL_law_1165 ⟨hc, hs⟩) hS (fun r7 B7 H locs hw7 hM hz7 hS => ?_)
    obtain ⟨rfl, hB7⟩ := hw7
    rw [hB7] at hM
    obtain ⟨w2, hH, hM2, hF2⟩ := hM
    rw [t27_v]
    have ko2 : zK w2 o9 = 14 := (hF2.1 o9).trans k_o
    have no2 : zN w2 o9 = 1 := (hF2.2.2.1 o9).trans n_o
    refine lv_iload hx hb dL_law_1168 (lv_at hl 1 rfl) ?_
    refine lv_icmp_eq (tgt := 1175) hx hb dL_law_1170 (by decide) (fun c_5 => ?_) (fun c_5 => absurd (rfl) c_5)
    refine lv_iload hx hb dL_law_1175 (lv_at hl 1 rfl) ?_
    refine lv_if_ne (tgt := 1192) hx hb dL_law_1177 (by decide) (fun _ => ?_) (fun h9 => absurd h9 hcd)
    refine lv_goto (tgt := 1431) hx hb dL_law_1192 (by decide) ?_
    have hl_6 : lv_has ls 7 [(0, .ref b), (1, .ref x), (2, .ref y), (3, .ref o9), (4, .int (nI k))] := lv_sub hl [2, 3, 4, 5, 6] rfl
    exact kk w2 _ _ _ _ ⟨Rep_mFr (Rep_27 hRep _) hF2, hM2, mJ_27 hJ _, ko2, no2⟩ hH hS hl_6
set_option maxHeartbeats 4000000 in
set_option maxRecDepth 100000 in
theorem law_buy {p : Program} {e : Env} {s : State} {m : MethodId} {below : List Frame} {meth : Method} {c : Code} {H : Heap} {locs : List Loc} {cells slots : Nat} {ls : Array Slot} (l : Launch) (hl9 : l.stackTraces = false) {D : va_G} {cy : Nat → ClassId} {b L : Nat} {xs : Nat → Int32} (hL : L ≤ 2560) (C0 : lw_At p s m meth c b L xs) (hA : zA D cy s.heap.size s) {w : zW} {x y o9 : Nat} {r : Nat → Nat} {B : mB} (hI : LI w x y o9 r B) (hH : zH D cy s.heap.size w H) (hS : va_S (fun q : Nat => s.heap.size ≤ q) s.heap H locs) {k : Nat} (hk : k + 5 ≤ L) (hl : lv_has ls 7 [(0, .ref b), (1, .ref x), (2, .ref y), (3, .ref o9), (4, .int (nI k))]) (hc : cells + 8 ≤ 601024) (hs : slots + 100 ≤ 7293034) (kk : ∀ (w1 : zW) (B1 : mB) (H1 : Heap) (locs1 : List Loc) (ls1 : Array Slot), LI w1 x y o9 r B1 → zH D cy s.heap.size w1 H1 → va_S (fun q : Nat => s.heap.size ≤ q) s.heap H1 locs1 → lv_has ls1 7 [(0, .ref b), (1, .ref x), (2, .ref y), (3, .ref o9), (4, .int (nI k))] → W p l e room_1 s m #[Value.ref b] below meth c H1 locs1 (cells + 8) (slots + 100) (lw_Z below #[Value.ref b] s) (F0 m 1431 ls1 [])) : W p l e room_1 s m #[Value.ref b] below meth c H locs cells slots (lw_Z below #[Value.ref b] s) (F0 m 1195 ls []) := by
  obtain ⟨hx, hb, hr, hml, hown, hts0, hX, hbl, hlocks, hgv⟩ := id C0
  have hb : c.code = cL_law := hb
  have hown : s.vm.findClass RL = some m.cls := hown
  have hts : ∀ w ∈ wsL_law, w.before #[Value.ref b] s = true := fun w h => hts0 w (wsL_law_in w h)
  have hbA : ¬ (fun q : Nat => s.heap.size ≤ q) b := Nat.not_le.mpr hbl
  obtain ⟨hRep, hM0, hJ, k_o, n_o⟩ := hI
  refine lv_aload_n hx hb dL_law_1195 rfl (lv_at hl 1 rfl) ?_
  refine lv_aload_n hx hb dL_law_1196 rfl (lv_at hl 0 rfl) ?_
  refine lv_iload hx hb dL_law_1197 (lv_at hl 4 rfl) ?_
  refine lv_iconst (v := 1) hx hb dL_law_1199 (by decide) ?_
  refine lv_iadd hx hb dL_law_1200 ?_
  refine va_sld hx hb hX hbl hbA hS (law_in (j := 1) hk hL (by decide)) dL_law_1201 ?_
  refine lv_aload_n hx hb dL_law_1202 rfl (lv_at hl 0 rfl) ?_
  refine lv_iload hx hb dL_law_1203 (lv_at hl 4 rfl) ?_
  refine lv_iconst (v := 2) hx hb dL_law_1205 (by decide) ?_
  refine lv_iadd hx hb dL_law_1206 ?_
  refine va_sld hx hb hX hbl hbA hS (law_in (j := 2) hk hL (by decide)) dL_law_1207 ?_
  refine lv_aload_n hx hb dL_law_1208 rfl (lv_at hl 3 rfl) ?_
  refine z_xcalli (vx_runSX (As := [.ref x, .int (xs ((nI k) + 1).toNatClampNeg), .int (xs ((nI k) + 2).toNatClampNeg), .ref o9]) (rest := []) ⟨hx, hb, hml, hown, hts⟩ (zL_buy l hl9 D cy s.heap.size w x o9 (z2 B 27 0 0) (xs ((nI k) + 1).toNatClampNeg) (xs ((nI k) + 2).toNatClampNeg) k_o n_o (Rep_27 hRep 0) (mJ_27 hJ 0)) (vx_cwSW 4 hts gL_law_L_buy rfl rfl rfl (by decide +kernel) ⟨Nat.le_of_ble_eq_true rfl, Nat.le_of_ble_eq_true rfl⟩) (z_preS hA hS hH) rfl rfl hl.1 rfl (lv_room (Nat.le_of_ble_eq_true rfl)) dL_law_1209 ⟨hc, hs⟩) hS (fun E9 ce9 q9 u9 H locs hw9 hH hz9 hS hce9 hv9 hcl9 => hw9.elim) (fun r9 u9 H locs hw9 hH hz9 hS => ?_)
  rcases hw9 with ⟨hcd, rfl, hRep1, hG, hJv⟩ | ⟨hcd, rfl, hu9⟩
  · rw [c27_buy] at hcd
    have hGo := hG o9 (Or.inr (Or.inr (Or.inr k_o)))
    have hM : mH D cy s.heap.size u9 y r B H := ⟨u9, hH, mRep_g hM0 hG, mFr_rf u9⟩
    refine lv_istore (lv' := [(5, .int 0), (0, .ref b), (1, .ref x), (2, .ref y), (3, .ref o9), (4, .int (nI k))]) hx hb dL_law_1212 hl (by decide) rfl (fun ls hl => ?_)
    refine lv_aload_n hx hb dL_law_1214 rfl (lv_at hl 3 rfl) ?_
    refine lv_aload_n hx hb dL_law_1215 rfl (lv_at hl 1 rfl) ?_
    refine lv_iload hx hb dL_law_1216 (lv_at hl 5 rfl) ?_
    refine lv_iconst (v := 1) hx hb dL_law_1218 (by decide) ?_
    refine lv_iadd hx hb dL_law_1219 ?_
    refine va_sld hx hb hX hbl hbA hS (law_in (j := 1) hk hL (by decide)) dL_law_1220 ?_
    refine lv_aload_n hx hb dL_law_1221 rfl (lv_at hl 1 rfl) ?_
    refine lv_iload hx hb dL_law_1222 (lv_at hl 5 rfl) ?_
    refine lv_iconst (v := 2) hx hb dL_law_1224 (by decide) ?_
    refine lv_iadd hx hb dL_law_1225 ?_
    refine va_sld hx hb hX hbl hbA hS (law_in (j := 2) hk hL (by decide)) dL_law_1226 ?_
    refine z_calli (va_runV (As := [.int (xs ((nI k) + 1).toNatClampNeg), .int (xs ((nI k) + 2).toNatClampNeg)]) (rest := []) ⟨hx, hb, hml, hown, hts⟩ (c6_buy l D cy s.heap.size u9 y r B (xs ((nI k) + 1).toNatClampNeg) (xs ((nI k) + 2).toNatClampNeg) hJ.1) (cwV 2 hts gL_law_X6_buy rfl rfl rfl (by decide +kernel) ⟨Nat.le_of_ble_eq_true rfl, Nat.le_of_ble_eq_true rfl⟩) (z_preV hA hS hM (m_recv hA hM)) rfl rfl hl.1 rfl (lv_room (Nat.le_of_ble_eq_true rfl)) dL_law_1227 ⟨hc, hs⟩) hS (fun r8 B8 H locs hw8 hM hz8 hS => ?_)
    rcases hw8 with ⟨-, rfl, hB8⟩ | ⟨hn8, -⟩
    rotate_left
    · exact absurd hcd hn8
    rw [hB8] at hM
    refine lv_istore (lv' := [(6, .int (an_buy (z2 B 27 0 0) (xs ((nI k) + 1).toNatClampNeg) (xs ((nI k) + 2).toNatClampNeg))), (5, .int 0), (0, .ref b), (1, .ref x), (2, .ref y), (3, .ref o9), (4, .int (nI k))]) hx hb dL_law_1230 hl (by decide) rfl (fun ls hl => ?_)
    refine lv_aload_n hx hb dL_law_1232 rfl (lv_at hl 4 rfl) ?_
    refine z_calli (va_runV (As := []) (rest := []) ⟨hx, hb, hml, hown, hts⟩ (c6_thrown l D cy s.heap.size u9 y r (up_buy (z2 B 27 0 0) (xs ((nI k) + 1).toNatClampNeg) (xs ((nI k) + 2).toNatClampNeg))) (cwV 0 hts gL_law_X6_thrown rfl rfl rfl (by decide +kernel) ⟨Nat.le_of_ble_eq_true rfl, Nat.le_of_ble_eq_true rfl⟩) (z_preV hA hS hM (m_recv hA hM)) rfl rfl hl.1 rfl (lv_room (Nat.le_of_ble_eq_true rfl)) dL_law_1233 ⟨hc, hs⟩) hS (fun r7 B7 H locs hw7 hM hz7 hS => ?_)
    obtain ⟨rfl, hB7⟩ := hw7
    rw [hB7] at hM
    obtain ⟨w2, hH, hM2, hF2⟩ := hM
    rw [t27_buy]
    have ko2 : zK w2 o9 = 14 := (hF2.1 o9).trans (hGo.1.trans k_o)
    have no2 : zN w2 o9 = 1 := (hF2.2.2.1 o9).trans (hGo.2.1.trans n_o)
    refine lv_iload hx hb dL_law_1236 (lv_at hl 1 rfl) ?_
    refine lv_icmp_eq (tgt := 1243) hx hb dL_law_1238 (by decide) (fun _ => ?_) (fun c_1 => absurd c_1 (by decide))
    refine lv_iload hx hb dL_law_1243 (lv_at hl 1 rfl) ?_
    refine lv_if_ne (tgt := 1260) hx hb dL_law_1245 (by decide) (fun c_2 => absurd c_2 (by decide)) (fun _ => ?_)
    refine lv_aload_n hx hb dL_law_1248 rfl (lv_at hl 5 rfl) ?_
    refine lv_iconst (v := 0) hx hb dL_law_1249 (by decide) ?_
    refine z_jald hx hb hA hH (zk0 ko2 (by decide)) (zEn (zE_k14 ko2) no2) 0 rfl (by decide) (by decide) dL_law_1250 ?_
    rw [show zJ w2 o9 0 = ((an_buy (z2 B 27 0 0) (xs ((nI k) + 1).toNatClampNeg) (xs ((nI k) + 2).toNatClampNeg))).toInt64 from (congrFun (hF2.2.2.2.2.1 o9) 0).trans hJv]
    refine lv_iload hx hb dL_law_1251 (lv_at hl 0 rfl) ?_
    refine lv_i2l (v := ((an_buy (z2 B 27 0 0) (xs ((nI k) + 1).toNatClampNeg) (xs ((nI k) + 2).toNatClampNeg))).toInt64) hx hb dL_law_1253 rfl ?_
    refine W.lcmp hx hb dL_law_1254 ?_
    rw [lg_self]
    refine lv_if_eq (tgt := 1260) hx hb dL_law_1255 (by decide) (fun _ => ?_) (fun c_3 => absurd c_3 (by decide))
    refine lv_goto (tgt := 1431) hx hb dL_law_1260 (by decide) ?_
    have hl_4 : lv_has ls 7 [(0, .ref b), (1, .ref x), (2, .ref y), (3, .ref o9), (4, .int (nI k))] := lv_sub hl [2, 3, 4, 5, 6] rfl
    exact kk w2 _ _ _ _ ⟨Rep_mFr hRep1 hF2, hM2, (JU_buy (mJ_27 hJ 0) (by rw [c27_buy]; exact hcd)), ko2, no2⟩ hH hS hl_4
  · rw [c27_buy] at hcd ⊢
    rw [hu9] at hH
    have hM : mH D cy s.heap.size w y r B H := ⟨w, hH, hM0, mFr_rf w⟩
    refine lv_istore (lv' := [(5, .int (cd_buy B (xs ((nI k) + 1).toNatClampNeg) (xs ((nI k) + 2).toNatClampNeg))), (0, .ref b), (1, .ref x), (2, .ref y), (3, .ref o9), (4, .int (nI k))]) hx hb dL_law_1212 hl (by decide) rfl (fun ls hl => ?_)
    refine lv_aload_n hx hb dL_law_1214 rfl (lv_at hl 3 rfl) ?_
    refine lv_aload_n hx hb dL_law_1215 rfl (lv_at hl 1 rfl) ?_
    refine lv_iload hx hb dL_law_1216 (lv_at hl 5 rfl) ?_
    refine lv_iconst (v := 1) hx hb dL_law_1218 (by decide) ?_
    refine lv_iadd hx hb dL_law_1219 ?_
    refine va_sld hx hb hX hbl hbA hS (law_in (j := 1) hk hL (by decide)) dL_law_1220 ?_
    refine lv_aload_n hx hb dL_law_1221 rfl (lv_at hl 1 rfl) ?_
    refine lv_iload hx hb dL_law_1222 (lv_at hl 5 rfl) ?_
    refine lv_iconst (v := 2) hx hb dL_law_1224 (by decide) ?_
    refine lv_iadd hx hb dL_law_1225 ?_
    refine va_sld hx hb hX hbl hbA hS (law_in (j := 2) hk hL (by decide)) dL_law_1226 ?_
    refine z_calli (va_runV (As := [.int (xs ((nI k) + 1).toNatClampNeg), .int (xs ((nI k) + 2).toNatClampNeg)]) (rest := []) ⟨hx, hb, hml, hown, hts⟩ (c6_buy l D cy s.heap.size w y r B (xs ((nI k) + 1).toNatClampNeg) (xs ((nI k) + 2).toNatClampNeg) hJ.1) (cwV 2 hts gL_law_X6_buy rfl rfl rfl (by decide +kernel) ⟨Nat.le_of_ble_eq_true rfl, Nat.le_of_ble_eq_true rfl⟩) (z_preV hA hS hM (m_recv hA hM)) rfl rfl hl.1 rfl (lv_room (Nat.le_of_ble_eq_true rfl)) dL_law_1227 ⟨hc, hs⟩) hS (fun r8 B8 H locs hw8 hM hz8 hS => ?_)
    rcases hw8 with ⟨hn8, -, -⟩ | ⟨-, hB8⟩
    · exact absurd hn8 hcd
    rw [hB8] at hM
    refine lv_istore (lv' := [(6, .int r8), (5, .int (cd_buy B (xs ((nI k) + 1).toNatClampNeg) (xs ((nI k) + 2).toNatClampNeg))), (0, .ref b), (1, .ref x), (2, .ref y), (3, .ref o9), (4, .int (nI k))]) hx hb dL_law_1230 hl (by decide) rfl (fun ls hl => ?_)
    refine lv_aload_n hx hb dL_law_1232 rfl (lv_at hl 4 rfl) ?_
    refine z_calli (va_runV (As := []) (rest := []) ⟨hx, hb, hml, hown, hts⟩ (c6_thrown l D cy s.heap.size w y r (z2 B 27 0 (cd_buy B (xs ((nI k) + 1).toNatClampNeg) (xs ((nI k) + 2).toNatClampNeg)))) (cwV 0 hts gL_law_X6_thrown rfl rfl rfl (by decide +kernel) ⟨Nat.le_of_ble_eq_true rfl, Nat.le_of_ble_eq_true rfl⟩) (z_preV hA hS hM (m_recv hA hM)) rfl rfl hl.1 rfl (lv_room (Nat.le_of_ble_eq_true rfl)) dL_law_1233 ⟨hc, hs⟩) hS (fun r7 B7 H locs hw7 hM hz7 hS => ?_)
    obtain ⟨rfl, hB7⟩ := hw7
    rw [hB7] at hM
    obtain ⟨w2, hH, hM2, hF2⟩ := hM
    rw [t27_v]
    have ko2 : zK w2 o9 = 14 := (hF2.1 o9).trans k_o
    have no2 : zN w2 o9 = 1 := (hF2.2.2.1 o9).trans n_o
    refine lv_iload hx hb dL_law_1236 (lv_at hl 1 rfl) ?_
    refine lv_icmp_eq (tgt := 1243) hx hb dL_law_1238 (by decide) (fun c_5 => ?_) (fun c_5 => absurd (rfl) c_5)
    refine lv_iload hx hb dL_law_1243 (lv_at hl 1 rfl) ?_
    refine lv_if_ne (tgt := 1260) hx hb dL_law_1245 (by decide) (fun _ => ?_) (fun h9 => absurd h9 hcd)
    refine lv_goto (tgt := 1431) hx hb dL_law_1260 (by decide) ?_
    have hl_6 : lv_has ls 7 [(0, .ref b), (1, .ref x), (2, .ref y), (3, .ref o9), (4, .int (nI k))] := lv_sub hl [2, 3, 4, 5, 6] rfl
    exact kk w2 _ _ _ _ ⟨Rep_mFr (Rep_27 hRep _) hF2, hM2, mJ_27 hJ _, ko2, no2⟩ hH hS hl_6
set_option maxHeartbeats 4000000 in
set_option maxRecDepth 100000 in
theorem law_limit {p : Program} {e : Env} {s : State} {m : MethodId} {below : List Frame} {meth : Method} {c : Code} {H : Heap} {locs : List Loc} {cells slots : Nat} {ls : Array Slot} (l : Launch) (hl9 : l.stackTraces = false) {D : va_G} {cy : Nat → ClassId} {b L : Nat} {xs : Nat → Int32} (hL : L ≤ 2560) (C0 : lw_At p s m meth c b L xs) (hA : zA D cy s.heap.size s) {w : zW} {x y o9 : Nat} {r : Nat → Nat} {B : mB} (hI : LI w x y o9 r B) (hH : zH D cy s.heap.size w H) (hS : va_S (fun q : Nat => s.heap.size ≤ q) s.heap H locs) {k : Nat} (hk : k + 5 ≤ L) (hl : lv_has ls 7 [(0, .ref b), (1, .ref x), (2, .ref y), (3, .ref o9), (4, .int (nI k))]) (hc : cells + 8 ≤ 601024) (hs : slots + 100 ≤ 7293034) (kk : ∀ (w1 : zW) (B1 : mB) (H1 : Heap) (locs1 : List Loc) (ls1 : Array Slot), LI w1 x y o9 r B1 → zH D cy s.heap.size w1 H1 → va_S (fun q : Nat => s.heap.size ≤ q) s.heap H1 locs1 → lv_has ls1 7 [(0, .ref b), (1, .ref x), (2, .ref y), (3, .ref o9), (4, .int (nI k))] → W p l e room_1 s m #[Value.ref b] below meth c H1 locs1 (cells + 8) (slots + 100) (lw_Z below #[Value.ref b] s) (F0 m 1431 ls1 [])) : W p l e room_1 s m #[Value.ref b] below meth c H locs cells slots (lw_Z below #[Value.ref b] s) (F0 m 1263 ls []) := by
  obtain ⟨hx, hb, hr, hml, hown, hts0, hX, hbl, hlocks, hgv⟩ := id C0
  have hb : c.code = cL_law := hb
  have hown : s.vm.findClass RL = some m.cls := hown
  have hts : ∀ w ∈ wsL_law, w.before #[Value.ref b] s = true := fun w h => hts0 w (wsL_law_in w h)
  have hbA : ¬ (fun q : Nat => s.heap.size ≤ q) b := Nat.not_le.mpr hbl
  obtain ⟨hRep, hM0, hJ, k_o, n_o⟩ := hI
  refine lv_aload_n hx hb dL_law_1263 rfl (lv_at hl 1 rfl) ?_
  refine lv_aload_n hx hb dL_law_1264 rfl (lv_at hl 0 rfl) ?_
  refine lv_iload hx hb dL_law_1265 (lv_at hl 4 rfl) ?_
  refine lv_iconst (v := 1) hx hb dL_law_1267 (by decide) ?_
  refine lv_iadd hx hb dL_law_1268 ?_
  refine va_sld hx hb hX hbl hbA hS (law_in (j := 1) hk hL (by decide)) dL_law_1269 ?_
  refine lv_aload_n hx hb dL_law_1270 rfl (lv_at hl 3 rfl) ?_
  refine z_xcalli (vx_runSX (As := [.ref x, .int (xs ((nI k) + 1).toNatClampNeg), .ref o9]) (rest := []) ⟨hx, hb, hml, hown, hts⟩ (zL_limit l hl9 D cy s.heap.size w x o9 (z2 B 27 0 0) (xs ((nI k) + 1).toNatClampNeg) k_o n_o (Rep_27 hRep 0) (mJ_27 hJ 0)) (vx_cwSW 3 hts gL_law_L_limit rfl rfl rfl (by decide +kernel) ⟨Nat.le_of_ble_eq_true rfl, Nat.le_of_ble_eq_true rfl⟩) (z_preS hA hS hH) rfl rfl hl.1 rfl (lv_room (Nat.le_of_ble_eq_true rfl)) dL_law_1271 ⟨hc, hs⟩) hS (fun E9 ce9 q9 u9 H locs hw9 hH hz9 hS hce9 hv9 hcl9 => hw9.elim) (fun r9 u9 H locs hw9 hH hz9 hS => ?_)
  rcases hw9 with ⟨hcd, rfl, hRep1, hG, hJv⟩ | ⟨hcd, rfl, hu9⟩
  · rw [c27_P] at hcd
    have hGo := hG o9 (Or.inr (Or.inr (Or.inr k_o)))
    have hM : mH D cy s.heap.size u9 y r B H := ⟨u9, hH, mRep_g hM0 hG, mFr_rf u9⟩
    refine lv_istore (lv' := [(5, .int 0), (0, .ref b), (1, .ref x), (2, .ref y), (3, .ref o9), (4, .int (nI k))]) hx hb dL_law_1274 hl (by decide) rfl (fun ls hl => ?_)
    refine lv_aload_n hx hb dL_law_1276 rfl (lv_at hl 3 rfl) ?_
    refine lv_aload_n hx hb dL_law_1277 rfl (lv_at hl 1 rfl) ?_
    refine lv_iload hx hb dL_law_1278 (lv_at hl 5 rfl) ?_
    refine lv_iconst (v := 1) hx hb dL_law_1280 (by decide) ?_
    refine lv_iadd hx hb dL_law_1281 ?_
    refine va_sld hx hb hX hbl hbA hS (law_in (j := 1) hk hL (by decide)) dL_law_1282 ?_
    refine z_calli (va_runV (As := [.int (xs ((nI k) + 1).toNatClampNeg)]) (rest := []) ⟨hx, hb, hml, hown, hts⟩ (c6_limit l D cy s.heap.size u9 y r B (xs ((nI k) + 1).toNatClampNeg) hJ.1) (cwV 1 hts gL_law_X6_limit rfl rfl rfl (by decide +kernel) ⟨Nat.le_of_ble_eq_true rfl, Nat.le_of_ble_eq_true rfl⟩) (z_preV hA hS hM (m_recv hA hM)) rfl rfl hl.1 rfl (lv_room (Nat.le_of_ble_eq_true rfl)) dL_law_1283 ⟨hc, hs⟩) hS (fun r8 B8 H locs hw8 hM hz8 hS => ?_)
    rcases hw8 with ⟨-, rfl, hB8⟩ | ⟨hn8, -⟩
    rotate_left
    · exact absurd hcd hn8
    rw [hB8] at hM
    refine lv_istore (lv' := [(6, .int (an_limit (z2 B 27 0 0) (xs ((nI k) + 1).toNatClampNeg))), (5, .int 0), (0, .ref b), (1, .ref x), (2, .ref y), (3, .ref o9), (4, .int (nI k))]) hx hb dL_law_1286 hl (by decide) rfl (fun ls hl => ?_)
    refine lv_aload_n hx hb dL_law_1288 rfl (lv_at hl 4 rfl) ?_
    refine z_calli (va_runV (As := []) (rest := []) ⟨hx, hb, hml, hown, hts⟩ (c6_thrown l D cy s.heap.size u9 y r (z2 B 27 0 0)) (cwV 0 hts gL_law_X6_thrown rfl rfl rfl (by decide +kernel) ⟨Nat.le_of_ble_eq_true rfl, Nat.le_of_ble_eq_true rfl⟩) (z_preV hA hS hM (m_recv hA hM)) rfl rfl hl.1 rfl (lv_room (Nat.le_of_ble_eq_true rfl)) dL_law_1289 ⟨hc, hs⟩) hS (fun r7 B7 H locs hw7 hM hz7 hS => ?_)
    obtain ⟨rfl, hB7⟩ := hw7
    rw [hB7] at hM
    obtain ⟨w2, hH, hM2, hF2⟩ := hM
    rw [t27_0]
    have ko2 : zK w2 o9 = 14 := (hF2.1 o9).trans (hGo.1.trans k_o)
    have no2 : zN w2 o9 = 1 := (hF2.2.2.1 o9).trans (hGo.2.1.trans n_o)
    refine lv_iload hx hb dL_law_1292 (lv_at hl 1 rfl) ?_
    refine lv_icmp_eq (tgt := 1299) hx hb dL_law_1294 (by decide) (fun _ => ?_) (fun c_1 => absurd c_1 (by decide))
    refine lv_iload hx hb dL_law_1299 (lv_at hl 1 rfl) ?_
    refine lv_if_ne (tgt := 1316) hx hb dL_law_1301 (by decide) (fun c_2 => absurd c_2 (by decide)) (fun _ => ?_)
    refine lv_aload_n hx hb dL_law_1304 rfl (lv_at hl 5 rfl) ?_
    refine lv_iconst (v := 0) hx hb dL_law_1305 (by decide) ?_
    refine z_jald hx hb hA hH (zk0 ko2 (by decide)) (zEn (zE_k14 ko2) no2) 0 rfl (by decide) (by decide) dL_law_1306 ?_
    rw [show zJ w2 o9 0 = ((an_limit (z2 B 27 0 0) (xs ((nI k) + 1).toNatClampNeg))).toInt64 from (congrFun (hF2.2.2.2.2.1 o9) 0).trans hJv]
    refine lv_iload hx hb dL_law_1307 (lv_at hl 0 rfl) ?_
    refine lv_i2l (v := ((an_limit (z2 B 27 0 0) (xs ((nI k) + 1).toNatClampNeg))).toInt64) hx hb dL_law_1309 rfl ?_
    refine W.lcmp hx hb dL_law_1310 ?_
    rw [lg_self]
    refine lv_if_eq (tgt := 1316) hx hb dL_law_1311 (by decide) (fun _ => ?_) (fun c_3 => absurd c_3 (by decide))
    refine lv_goto (tgt := 1431) hx hb dL_law_1316 (by decide) ?_
    have hl_4 : lv_has ls 7 [(0, .ref b), (1, .ref x), (2, .ref y), (3, .ref o9), (4, .int (nI k))] := lv_sub hl [2, 3, 4, 5, 6] rfl
    exact kk w2 _ _ _ _ ⟨Rep_mFr hRep1 hF2, hM2, (mJ_27 hJ 0), ko2, no2⟩ hH hS hl_4
  · rw [c27_P] at hcd ⊢
    rw [hu9] at hH
    have hM : mH D cy s.heap.size w y r B H := ⟨w, hH, hM0, mFr_rf w⟩
    refine lv_istore (lv' := [(5, .int (cd_P B (xs ((nI k) + 1).toNatClampNeg))), (0, .ref b), (1, .ref x), (2, .ref y), (3, .ref o9), (4, .int (nI k))]) hx hb dL_law_1274 hl (by decide) rfl (fun ls hl => ?_)
    refine lv_aload_n hx hb dL_law_1276 rfl (lv_at hl 3 rfl) ?_
    refine lv_aload_n hx hb dL_law_1277 rfl (lv_at hl 1 rfl) ?_
    refine lv_iload hx hb dL_law_1278 (lv_at hl 5 rfl) ?_
    refine lv_iconst (v := 1) hx hb dL_law_1280 (by decide) ?_
    refine lv_iadd hx hb dL_law_1281 ?_
    refine va_sld hx hb hX hbl hbA hS (law_in (j := 1) hk hL (by decide)) dL_law_1282 ?_
    refine z_calli (va_runV (As := [.int (xs ((nI k) + 1).toNatClampNeg)]) (rest := []) ⟨hx, hb, hml, hown, hts⟩ (c6_limit l D cy s.heap.size w y r B (xs ((nI k) + 1).toNatClampNeg) hJ.1) (cwV 1 hts gL_law_X6_limit rfl rfl rfl (by decide +kernel) ⟨Nat.le_of_ble_eq_true rfl, Nat.le_of_ble_eq_true rfl⟩) (z_preV hA hS hM (m_recv hA hM)) rfl rfl hl.1 rfl (lv_room (Nat.le_of_ble_eq_true rfl)) dL_law_1283 ⟨hc, hs⟩) hS (fun r8 B8 H locs hw8 hM hz8 hS => ?_)
    rcases hw8 with ⟨hn8, -, -⟩ | ⟨-, hB8⟩
    · exact absurd hn8 hcd
    rw [hB8] at hM
    refine lv_istore (lv' := [(6, .int r8), (5, .int (cd_P B (xs ((nI k) + 1).toNatClampNeg))), (0, .ref b), (1, .ref x), (2, .ref y), (3, .ref o9), (4, .int (nI k))]) hx hb dL_law_1286 hl (by decide) rfl (fun ls hl => ?_)
    refine lv_aload_n hx hb dL_law_1288 rfl (lv_at hl 4 rfl) ?_
    refine z_calli (va_runV (As := []) (rest := []) ⟨hx, hb, hml, hown, hts⟩ (c6_thrown l D cy s.heap.size w y r (z2 B 27 0 (cd_P B (xs ((nI k) + 1).toNatClampNeg)))) (cwV 0 hts gL_law_X6_thrown rfl rfl rfl (by decide +kernel) ⟨Nat.le_of_ble_eq_true rfl, Nat.le_of_ble_eq_true rfl⟩) (z_preV hA hS hM (m_recv hA hM)) rfl rfl hl.1 rfl (lv_room (Nat.le_of_ble_eq_true rfl)) dL_law_1289 ⟨hc, hs⟩) hS (fun r7 B7 H locs hw7 hM hz7 hS => ?_)
    obtain ⟨rfl, hB7⟩ := hw7
    rw [hB7] at hM
    obtain ⟨w2, hH, hM2, hF2⟩ := hM
    rw [t27_v]
    have ko2 : zK w2 o9 = 14 := (hF2.1 o9).trans k_o
    have no2 : zN w2 o9 = 1 := (hF2.2.2.1 o9).trans n_o
    refine lv_iload hx hb dL_law_1292 (lv_at hl 1 rfl) ?_
    refine lv_icmp_eq (tgt := 1299) hx hb dL_law_1294 (by decide) (fun c_5 => ?_) (fun c_5 => absurd (rfl) c_5)
    refine lv_iload hx hb dL_law_1299 (lv_at hl 1 rfl) ?_
    refine lv_if_ne (tgt := 1316) hx hb dL_law_1301 (by decide) (fun _ => ?_) (fun h9 => absurd h9 hcd)
    refine lv_goto (tgt := 1431) hx hb dL_law_1316 (by decide) ?_
    have hl_6 : lv_has ls 7 [(0, .ref b), (1, .ref x), (2, .ref y), (3, .ref o9), (4, .int (nI k))] := lv_sub hl [2, 3, 4, 5, 6] rfl
    exact kk w2 _ _ _ _ ⟨Rep_mFr (Rep_27 hRep _) hF2, hM2, mJ_27 hJ _, ko2, no2⟩ hH hS hl_6
set_option maxHeartbeats 4000000 in
set_option maxRecDepth 100000 in
theorem law_paidOut {p : Program} {e : Env} {s : State} {m : MethodId} {below : List Frame} {meth : Method} {c : Code} {H : Heap} {locs : List Loc} {cells slots : Nat} {ls : Array Slot} (l : Launch) (hl9 : l.stackTraces = false) {D : va_G} {cy : Nat → ClassId} {b L : Nat} {xs : Nat → Int32} (hL : L ≤ 2560) (C0 : lw_At p s m meth c b L xs) (hA : zA D cy s.heap.size s) {w : zW} {x y o9 : Nat} {r : Nat → Nat} {B : mB} (hI : LI w x y o9 r B) (hH : zH D cy s.heap.size w H) (hS : va_S (fun q : Nat => s.heap.size ≤ q) s.heap H locs) {k : Nat} (hk : k + 5 ≤ L) (hl : lv_has ls 7 [(0, .ref b), (1, .ref x), (2, .ref y), (3, .ref o9), (4, .int (nI k))]) (hc : cells + 8 ≤ 601024) (hs : slots + 100 ≤ 7293034) (kk : ∀ (w1 : zW) (B1 : mB) (H1 : Heap) (locs1 : List Loc) (ls1 : Array Slot), LI w1 x y o9 r B1 → zH D cy s.heap.size w1 H1 → va_S (fun q : Nat => s.heap.size ≤ q) s.heap H1 locs1 → lv_has ls1 7 [(0, .ref b), (1, .ref x), (2, .ref y), (3, .ref o9), (4, .int (nI k))] → W p l e room_1 s m #[Value.ref b] below meth c H1 locs1 (cells + 8) (slots + 100) (lw_Z below #[Value.ref b] s) (F0 m 1431 ls1 [])) : W p l e room_1 s m #[Value.ref b] below meth c H locs cells slots (lw_Z below #[Value.ref b] s) (F0 m 1319 ls []) := by
  obtain ⟨hx, hb, hr, hml, hown, hts0, hX, hbl, hlocks, hgv⟩ := id C0
  have hb : c.code = cL_law := hb
  have hown : s.vm.findClass RL = some m.cls := hown
  have hts : ∀ w ∈ wsL_law, w.before #[Value.ref b] s = true := fun w h => hts0 w (wsL_law_in w h)
  have hbA : ¬ (fun q : Nat => s.heap.size ≤ q) b := Nat.not_le.mpr hbl
  obtain ⟨hRep, hM0, hJ, k_o, n_o⟩ := hI
  refine lv_aload_n hx hb dL_law_1319 rfl (lv_at hl 1 rfl) ?_
  refine lv_aload_n hx hb dL_law_1320 rfl (lv_at hl 0 rfl) ?_
  refine lv_iload hx hb dL_law_1321 (lv_at hl 4 rfl) ?_
  refine lv_iconst (v := 1) hx hb dL_law_1323 (by decide) ?_
  refine lv_iadd hx hb dL_law_1324 ?_
  refine va_sld hx hb hX hbl hbA hS (law_in (j := 1) hk hL (by decide)) dL_law_1325 ?_
  refine lv_aload_n hx hb dL_law_1326 rfl (lv_at hl 3 rfl) ?_
  refine z_xcalli (vx_runSX (As := [.ref x, .int (xs ((nI k) + 1).toNatClampNeg), .ref o9]) (rest := []) ⟨hx, hb, hml, hown, hts⟩ (zL_paidOut l hl9 D cy s.heap.size w x o9 (z2 B 27 0 0) (xs ((nI k) + 1).toNatClampNeg) k_o n_o (Rep_27 hRep 0) (mJ_27 hJ 0)) (vx_cwSW 3 hts gL_law_L_paidOut rfl rfl rfl (by decide +kernel) ⟨Nat.le_of_ble_eq_true rfl, Nat.le_of_ble_eq_true rfl⟩) (z_preS hA hS hH) rfl rfl hl.1 rfl (lv_room (Nat.le_of_ble_eq_true rfl)) dL_law_1327 ⟨hc, hs⟩) hS (fun E9 ce9 q9 u9 H locs hw9 hH hz9 hS hce9 hv9 hcl9 => hw9.elim) (fun r9 u9 H locs hw9 hH hz9 hS => ?_)
  rcases hw9 with ⟨hcd, rfl, hRep1, hG, hJv⟩ | ⟨hcd, rfl, hu9⟩
  · rw [c27_P] at hcd
    have hGo := hG o9 (Or.inr (Or.inr (Or.inr k_o)))
    have hM : mH D cy s.heap.size u9 y r B H := ⟨u9, hH, mRep_g hM0 hG, mFr_rf u9⟩
    refine lv_istore (lv' := [(5, .int 0), (0, .ref b), (1, .ref x), (2, .ref y), (3, .ref o9), (4, .int (nI k))]) hx hb dL_law_1330 hl (by decide) rfl (fun ls hl => ?_)
    refine lv_aload_n hx hb dL_law_1332 rfl (lv_at hl 3 rfl) ?_
    refine lv_aload_n hx hb dL_law_1333 rfl (lv_at hl 1 rfl) ?_
    refine lv_iload hx hb dL_law_1334 (lv_at hl 5 rfl) ?_
    refine lv_iconst (v := 1) hx hb dL_law_1336 (by decide) ?_
    refine lv_iadd hx hb dL_law_1337 ?_
    refine va_sld hx hb hX hbl hbA hS (law_in (j := 1) hk hL (by decide)) dL_law_1338 ?_
    refine z_calli (va_runV (As := [.int (xs ((nI k) + 1).toNatClampNeg)]) (rest := []) ⟨hx, hb, hml, hown, hts⟩ (c6_paidOut l D cy s.heap.size u9 y r B (xs ((nI k) + 1).toNatClampNeg) hJ.1) (cwV 1 hts gL_law_X6_paidOut rfl rfl rfl (by decide +kernel) ⟨Nat.le_of_ble_eq_true rfl, Nat.le_of_ble_eq_true rfl⟩) (z_preV hA hS hM (m_recv hA hM)) rfl rfl hl.1 rfl (lv_room (Nat.le_of_ble_eq_true rfl)) dL_law_1339 ⟨hc, hs⟩) hS (fun r8 B8 H locs hw8 hM hz8 hS => ?_)
    rcases hw8 with ⟨-, rfl, hB8⟩ | ⟨hn8, -⟩
    rotate_left
    · exact absurd hcd hn8
    rw [hB8] at hM
    refine lv_istore (lv' := [(6, .int (an_of (z2 B 27 0 0) 13 (xs ((nI k) + 1).toNatClampNeg))), (5, .int 0), (0, .ref b), (1, .ref x), (2, .ref y), (3, .ref o9), (4, .int (nI k))]) hx hb dL_law_1342 hl (by decide) rfl (fun ls hl => ?_)
    refine lv_aload_n hx hb dL_law_1344 rfl (lv_at hl 4 rfl) ?_
    refine z_calli (va_runV (As := []) (rest := []) ⟨hx, hb, hml, hown, hts⟩ (c6_thrown l D cy s.heap.size u9 y r (z2 B 27 0 0)) (cwV 0 hts gL_law_X6_thrown rfl rfl rfl (by decide +kernel) ⟨Nat.le_of_ble_eq_true rfl, Nat.le_of_ble_eq_true rfl⟩) (z_preV hA hS hM (m_recv hA hM)) rfl rfl hl.1 rfl (lv_room (Nat.le_of_ble_eq_true rfl)) dL_law_1345 ⟨hc, hs⟩) hS (fun r7 B7 H locs hw7 hM hz7 hS => ?_)
    obtain ⟨rfl, hB7⟩ := hw7
    rw [hB7] at hM
    obtain ⟨w2, hH, hM2, hF2⟩ := hM
    rw [t27_0]
    have ko2 : zK w2 o9 = 14 := (hF2.1 o9).trans (hGo.1.trans k_o)
    have no2 : zN w2 o9 = 1 := (hF2.2.2.1 o9).trans (hGo.2.1.trans n_o)
    refine lv_iload hx hb dL_law_1348 (lv_at hl 1 rfl) ?_
    refine lv_icmp_eq (tgt := 1355) hx hb dL_law_1350 (by decide) (fun _ => ?_) (fun c_1 => absurd c_1 (by decide))
    refine lv_iload hx hb dL_law_1355 (lv_at hl 1 rfl) ?_
    refine lv_if_ne (tgt := 1372) hx hb dL_law_1357 (by decide) (fun c_2 => absurd c_2 (by decide)) (fun _ => ?_)
    refine lv_aload_n hx hb dL_law_1360 rfl (lv_at hl 5 rfl) ?_
    refine lv_iconst (v := 0) hx hb dL_law_1361 (by decide) ?_
    refine z_jald hx hb hA hH (zk0 ko2 (by decide)) (zEn (zE_k14 ko2) no2) 0 rfl (by decide) (by decide) dL_law_1362 ?_
    rw [show zJ w2 o9 0 = ((an_of (z2 B 27 0 0) 13 (xs ((nI k) + 1).toNatClampNeg))).toInt64 from (congrFun (hF2.2.2.2.2.1 o9) 0).trans hJv]
    refine lv_iload hx hb dL_law_1363 (lv_at hl 0 rfl) ?_
    refine lv_i2l (v := ((an_of (z2 B 27 0 0) 13 (xs ((nI k) + 1).toNatClampNeg))).toInt64) hx hb dL_law_1365 rfl ?_
    refine W.lcmp hx hb dL_law_1366 ?_
    rw [lg_self]
    refine lv_if_eq (tgt := 1372) hx hb dL_law_1367 (by decide) (fun _ => ?_) (fun c_3 => absurd c_3 (by decide))
    refine lv_goto (tgt := 1431) hx hb dL_law_1372 (by decide) ?_
    have hl_4 : lv_has ls 7 [(0, .ref b), (1, .ref x), (2, .ref y), (3, .ref o9), (4, .int (nI k))] := lv_sub hl [2, 3, 4, 5, 6] rfl
    exact kk w2 _ _ _ _ ⟨Rep_mFr hRep1 hF2, hM2, (mJ_27 hJ 0), ko2, no2⟩ hH hS hl_4
  · rw [c27_P] at hcd ⊢
    rw [hu9] at hH
    have hM : mH D cy s.heap.size w y r B H := ⟨w, hH, hM0, mFr_rf w⟩
    refine lv_istore (lv' := [(5, .int (cd_P B (xs ((nI k) + 1).toNatClampNeg))), (0, .ref b), (1, .ref x), (2, .ref y), (3, .ref o9), (4, .int (nI k))]) hx hb dL_law_1330 hl (by decide) rfl (fun ls hl => ?_)
    refine lv_aload_n hx hb dL_law_1332 rfl (lv_at hl 3 rfl) ?_
    refine lv_aload_n hx hb dL_law_1333 rfl (lv_at hl 1 rfl) ?_
    refine lv_iload hx hb dL_law_1334 (lv_at hl 5 rfl) ?_
    refine lv_iconst (v := 1) hx hb dL_law_1336 (by decide) ?_
    refine lv_iadd hx hb dL_law_1337 ?_
    refine va_sld hx hb hX hbl hbA hS (law_in (j := 1) hk hL (by decide)) dL_law_1338 ?_
    refine z_calli (va_runV (As := [.int (xs ((nI k) + 1).toNatClampNeg)]) (rest := []) ⟨hx, hb, hml, hown, hts⟩ (c6_paidOut l D cy s.heap.size w y r B (xs ((nI k) + 1).toNatClampNeg) hJ.1) (cwV 1 hts gL_law_X6_paidOut rfl rfl rfl (by decide +kernel) ⟨Nat.le_of_ble_eq_true rfl, Nat.le_of_ble_eq_true rfl⟩) (z_preV hA hS hM (m_recv hA hM)) rfl rfl hl.1 rfl (lv_room (Nat.le_of_ble_eq_true rfl)) dL_law_1339 ⟨hc, hs⟩) hS (fun r8 B8 H locs hw8 hM hz8 hS => ?_)
    rcases hw8 with ⟨hn8, -, -⟩ | ⟨-, hB8⟩
    · exact absurd hn8 hcd
    rw [hB8] at hM
    refine lv_istore (lv' := [(6, .int r8), (5, .int (cd_P B (xs ((nI k) + 1).toNatClampNeg))), (0, .ref b), (1, .ref x), (2, .ref y), (3, .ref o9), (4, .int (nI k))]) hx hb dL_law_1342 hl (by decide) rfl (fun ls hl => ?_)
    refine lv_aload_n hx hb dL_law_1344 rfl (lv_at hl 4 rfl) ?_
    refine z_calli (va_runV (As := []) (rest := []) ⟨hx, hb, hml, hown, hts⟩ (c6_thrown l D cy s.heap.size w y r (z2 B 27 0 (cd_P B (xs ((nI k) + 1).toNatClampNeg)))) (cwV 0 hts gL_law_X6_thrown rfl rfl rfl (by decide +kernel) ⟨Nat.le_of_ble_eq_true rfl, Nat.le_of_ble_eq_true rfl⟩) (z_preV hA hS hM (m_recv hA hM)) rfl rfl hl.1 rfl (lv_room (Nat.le_of_ble_eq_true rfl)) dL_law_1345 ⟨hc, hs⟩) hS (fun r7 B7 H locs hw7 hM hz7 hS => ?_)
    obtain ⟨rfl, hB7⟩ := hw7
    rw [hB7] at hM
    obtain ⟨w2, hH, hM2, hF2⟩ := hM
    rw [t27_v]
    have ko2 : zK w2 o9 = 14 := (hF2.1 o9).trans k_o
    have no2 : zN w2 o9 = 1 := (hF2.2.2.1 o9).trans n_o
    refine lv_iload hx hb dL_law_1348 (lv_at hl 1 rfl) ?_
    refine lv_icmp_eq (tgt := 1355) hx hb dL_law_1350 (by decide) (fun c_5 => ?_) (fun c_5 => absurd (rfl) c_5)
    refine lv_iload hx hb dL_law_1355 (lv_at hl 1 rfl) ?_
    refine lv_if_ne (tgt := 1372) hx hb dL_law_1357 (by decide) (fun _ => ?_) (fun h9 => absurd h9 hcd)
    refine lv_goto (tgt := 1431) hx hb dL_law_1372 (by decide) ?_
    have hl_6 : lv_has ls 7 [(0, .ref b), (1, .ref x), (2, .ref y), (3, .ref o9), (4, .int (nI k))] := lv_sub hl [2, 3, 4, 5, 6] rfl
    exact kk w2 _ _ _ _ ⟨Rep_mFr (Rep_27 hRep _) hF2, hM2, mJ_27 hJ _, ko2, no2⟩ hH hS hl_6
set_option maxHeartbeats 4000000 in
set_option maxRecDepth 100000 in
theorem law_pass {p : Program} {e : Env} {s : State} {m : MethodId} {below : List Frame} {meth : Method} {c : Code} {H : Heap} {locs : List Loc} {cells slots : Nat} {ls : Array Slot} (l : Launch) (hl9 : l.stackTraces = false) {D : va_G} {cy : Nat → ClassId} {b L : Nat} {xs : Nat → Int32} (hL : L ≤ 2560) (C0 : lw_At p s m meth c b L xs) (hA : zA D cy s.heap.size s) {w : zW} {x y o9 : Nat} {r : Nat → Nat} {B : mB} (hI : LI w x y o9 r B) (hH : zH D cy s.heap.size w H) (hS : va_S (fun q : Nat => s.heap.size ≤ q) s.heap H locs) {k : Nat} (hk : k + 5 ≤ L) (hl : lv_has ls 7 [(0, .ref b), (1, .ref x), (2, .ref y), (3, .ref o9), (4, .int (nI k))]) (hc : cells + 8 ≤ 601024) (hs : slots + 100 ≤ 7293034) (kk : ∀ (w1 : zW) (B1 : mB) (H1 : Heap) (locs1 : List Loc) (ls1 : Array Slot), LI w1 x y o9 r B1 → zH D cy s.heap.size w1 H1 → va_S (fun q : Nat => s.heap.size ≤ q) s.heap H1 locs1 → lv_has ls1 7 [(0, .ref b), (1, .ref x), (2, .ref y), (3, .ref o9), (4, .int (nI k))] → W p l e room_1 s m #[Value.ref b] below meth c H1 locs1 (cells + 8) (slots + 100) (lw_Z below #[Value.ref b] s) (F0 m 1431 ls1 [])) : W p l e room_1 s m #[Value.ref b] below meth c H locs cells slots (lw_Z below #[Value.ref b] s) (F0 m 1375 ls []) := by
  obtain ⟨hx, hb, hr, hml, hown, hts0, hX, hbl, hlocks, hgv⟩ := id C0
  have hb : c.code = cL_law := hb
  have hown : s.vm.findClass RL = some m.cls := hown
  have hts : ∀ w ∈ wsL_law, w.before #[Value.ref b] s = true := fun w h => hts0 w (wsL_law_in w h)
  have hbA : ¬ (fun q : Nat => s.heap.size ≤ q) b := Nat.not_le.mpr hbl
  obtain ⟨hRep, hM0, hJ, k_o, n_o⟩ := hI
  refine lv_aload_n hx hb dL_law_1375 rfl (lv_at hl 1 rfl) ?_
  refine lv_aload_n hx hb dL_law_1376 rfl (lv_at hl 0 rfl) ?_
  refine lv_iload hx hb dL_law_1377 (lv_at hl 4 rfl) ?_
  refine lv_iconst (v := 1) hx hb dL_law_1379 (by decide) ?_
  refine lv_iadd hx hb dL_law_1380 ?_
  refine va_sld hx hb hX hbl hbA hS (law_in (j := 1) hk hL (by decide)) dL_law_1381 ?_
  refine lv_aload_n hx hb dL_law_1382 rfl (lv_at hl 3 rfl) ?_
  refine z_xcalli (vx_runSX (As := [.ref x, .int (xs ((nI k) + 1).toNatClampNeg), .ref o9]) (rest := []) ⟨hx, hb, hml, hown, hts⟩ (zL_pass l hl9 D cy s.heap.size w x o9 (z2 B 27 0 0) (xs ((nI k) + 1).toNatClampNeg) k_o n_o (Rep_27 hRep 0) (mJ_27 hJ 0)) (vx_cwSW 3 hts gL_law_L_pass rfl rfl rfl (by decide +kernel) ⟨Nat.le_of_ble_eq_true rfl, Nat.le_of_ble_eq_true rfl⟩) (z_preS hA hS hH) rfl rfl hl.1 rfl (lv_room (Nat.le_of_ble_eq_true rfl)) dL_law_1383 ⟨hc, hs⟩) hS (fun E9 ce9 q9 u9 H locs hw9 hH hz9 hS hce9 hv9 hcl9 => hw9.elim) (fun r9 u9 H locs hw9 hH hz9 hS => ?_)
  rcases hw9 with ⟨hcd, rfl, hRep1, hG, hJv⟩ | ⟨hcd, rfl, hu9⟩
  · rw [c27_pass] at hcd
    have hGo := hG o9 (Or.inr (Or.inr (Or.inr k_o)))
    have hM : mH D cy s.heap.size u9 y r B H := ⟨u9, hH, mRep_g hM0 hG, mFr_rf u9⟩
    refine lv_istore (lv' := [(5, .int 0), (0, .ref b), (1, .ref x), (2, .ref y), (3, .ref o9), (4, .int (nI k))]) hx hb dL_law_1386 hl (by decide) rfl (fun ls hl => ?_)
    refine lv_aload_n hx hb dL_law_1388 rfl (lv_at hl 3 rfl) ?_
    refine lv_aload_n hx hb dL_law_1389 rfl (lv_at hl 1 rfl) ?_
    refine lv_iload hx hb dL_law_1390 (lv_at hl 5 rfl) ?_
    refine lv_iconst (v := 1) hx hb dL_law_1392 (by decide) ?_
    refine lv_iadd hx hb dL_law_1393 ?_
    refine va_sld hx hb hX hbl hbA hS (law_in (j := 1) hk hL (by decide)) dL_law_1394 ?_
    refine z_calli (va_runV (As := [.int (xs ((nI k) + 1).toNatClampNeg)]) (rest := []) ⟨hx, hb, hml, hown, hts⟩ (c6_pass l D cy s.heap.size u9 y r B (xs ((nI k) + 1).toNatClampNeg) hJ.1) (cwV 1 hts gL_law_X6_pass rfl rfl rfl (by decide +kernel) ⟨Nat.le_of_ble_eq_true rfl, Nat.le_of_ble_eq_true rfl⟩) (z_preV hA hS hM (m_recv hA hM)) rfl rfl hl.1 rfl (lv_room (Nat.le_of_ble_eq_true rfl)) dL_law_1395 ⟨hc, hs⟩) hS (fun r8 B8 H locs hw8 hM hz8 hS => ?_)
    rcases hw8 with ⟨-, rfl, hB8⟩ | ⟨hn8, -⟩
    rotate_left
    · exact absurd hcd hn8
    rw [hB8] at hM
    refine lv_istore (lv' := [(6, .int (an_pass (z2 B 27 0 0) (xs ((nI k) + 1).toNatClampNeg))), (5, .int 0), (0, .ref b), (1, .ref x), (2, .ref y), (3, .ref o9), (4, .int (nI k))]) hx hb dL_law_1398 hl (by decide) rfl (fun ls hl => ?_)
    refine lv_aload_n hx hb dL_law_1400 rfl (lv_at hl 4 rfl) ?_
    refine z_calli (va_runV (As := []) (rest := []) ⟨hx, hb, hml, hown, hts⟩ (c6_thrown l D cy s.heap.size u9 y r (up_pass (z2 B 27 0 0) (xs ((nI k) + 1).toNatClampNeg))) (cwV 0 hts gL_law_X6_thrown rfl rfl rfl (by decide +kernel) ⟨Nat.le_of_ble_eq_true rfl, Nat.le_of_ble_eq_true rfl⟩) (z_preV hA hS hM (m_recv hA hM)) rfl rfl hl.1 rfl (lv_room (Nat.le_of_ble_eq_true rfl)) dL_law_1401 ⟨hc, hs⟩) hS (fun r7 B7 H locs hw7 hM hz7 hS => ?_)
    obtain ⟨rfl, hB7⟩ := hw7
    rw [hB7] at hM
    obtain ⟨w2, hH, hM2, hF2⟩ := hM
    rw [t27_pass]
    have ko2 : zK w2 o9 = 14 := (hF2.1 o9).trans (hGo.1.trans k_o)
    have no2 : zN w2 o9 = 1 := (hF2.2.2.1 o9).trans (hGo.2.1.trans n_o)
    refine lv_iload hx hb dL_law_1404 (lv_at hl 1 rfl) ?_
    refine lv_icmp_eq (tgt := 1411) hx hb dL_law_1406 (by decide) (fun _ => ?_) (fun c_1 => absurd c_1 (by decide))
    refine lv_iload hx hb dL_law_1411 (lv_at hl 1 rfl) ?_
    refine lv_if_ne (tgt := 1428) hx hb dL_law_1413 (by decide) (fun c_2 => absurd c_2 (by decide)) (fun _ => ?_)
    refine lv_aload_n hx hb dL_law_1416 rfl (lv_at hl 5 rfl) ?_
    refine lv_iconst (v := 0) hx hb dL_law_1417 (by decide) ?_
    refine z_jald hx hb hA hH (zk0 ko2 (by decide)) (zEn (zE_k14 ko2) no2) 0 rfl (by decide) (by decide) dL_law_1418 ?_
    rw [show zJ w2 o9 0 = ((an_pass (z2 B 27 0 0) (xs ((nI k) + 1).toNatClampNeg))).toInt64 from (congrFun (hF2.2.2.2.2.1 o9) 0).trans hJv]
    refine lv_iload hx hb dL_law_1419 (lv_at hl 0 rfl) ?_
    refine lv_i2l (v := ((an_pass (z2 B 27 0 0) (xs ((nI k) + 1).toNatClampNeg))).toInt64) hx hb dL_law_1421 rfl ?_
    refine W.lcmp hx hb dL_law_1422 ?_
    rw [lg_self]
    refine lv_if_eq (tgt := 1428) hx hb dL_law_1423 (by decide) (fun _ => ?_) (fun c_3 => absurd c_3 (by decide))
    refine lv_goto (tgt := 1431) hx hb dL_law_1428 (by decide) ?_
    have hl_4 : lv_has ls 7 [(0, .ref b), (1, .ref x), (2, .ref y), (3, .ref o9), (4, .int (nI k))] := lv_sub hl [2, 3, 4, 5, 6] rfl
    exact kk w2 _ _ _ _ ⟨Rep_mFr hRep1 hF2, hM2, (JU_pass (mJ_27 hJ 0) (by rw [c27_pass]; exact hcd)), ko2, no2⟩ hH hS hl_4
  · rw [c27_pass] at hcd ⊢
    rw [hu9] at hH
    have hM : mH D cy s.heap.size w y r B H := ⟨w, hH, hM0, mFr_rf w⟩
    refine lv_istore (lv' := [(5, .int (cd_pass B (xs ((nI k) + 1).toNatClampNeg))), (0, .ref b), (1, .ref x), (2, .ref y), (3, .ref o9), (4, .int (nI k))]) hx hb dL_law_1386 hl (by decide) rfl (fun ls hl => ?_)
    refine lv_aload_n hx hb dL_law_1388 rfl (lv_at hl 3 rfl) ?_
    refine lv_aload_n hx hb dL_law_1389 rfl (lv_at hl 1 rfl) ?_
    refine lv_iload hx hb dL_law_1390 (lv_at hl 5 rfl) ?_
    refine lv_iconst (v := 1) hx hb dL_law_1392 (by decide) ?_
    refine lv_iadd hx hb dL_law_1393 ?_
    refine va_sld hx hb hX hbl hbA hS (law_in (j := 1) hk hL (by decide)) dL_law_1394 ?_
    refine z_calli (va_runV (As := [.int (xs ((nI k) + 1).toNatClampNeg)]) (rest := []) ⟨hx, hb, hml, hown, hts⟩ (c6_pass l D cy s.heap.size w y r B (xs ((nI k) + 1).toNatClampNeg) hJ.1) (cwV 1 hts gL_law_X6_pass rfl rfl rfl (by decide +kernel) ⟨Nat.le_of_ble_eq_true rfl, Nat.le_of_ble_eq_true rfl⟩) (z_preV hA hS hM (m_recv hA hM)) rfl rfl hl.1 rfl (lv_room (Nat.le_of_ble_eq_true rfl)) dL_law_1395 ⟨hc, hs⟩) hS (fun r8 B8 H locs hw8 hM hz8 hS => ?_)
    rcases hw8 with ⟨hn8, -, -⟩ | ⟨-, hB8⟩
    · exact absurd hn8 hcd
    rw [hB8] at hM
    refine lv_istore (lv' := [(6, .int r8), (5, .int (cd_pass B (xs ((nI k) + 1).toNatClampNeg))), (0, .ref b), (1, .ref x), (2, .ref y), (3, .ref o9), (4, .int (nI k))]) hx hb dL_law_1398 hl (by decide) rfl (fun ls hl => ?_)
    refine lv_aload_n hx hb dL_law_1400 rfl (lv_at hl 4 rfl) ?_
    refine z_calli (va_runV (As := []) (rest := []) ⟨hx, hb, hml, hown, hts⟩ (c6_thrown l D cy s.heap.size w y r (z2 B 27 0 (cd_pass B (xs ((nI k) + 1).toNatClampNeg)))) (cwV 0 hts gL_law_X6_thrown rfl rfl rfl (by decide +kernel) ⟨Nat.le_of_ble_eq_true rfl, Nat.le_of_ble_eq_true rfl⟩) (z_preV hA hS hM (m_recv hA hM)) rfl rfl hl.1 rfl (lv_room (Nat.le_of_ble_eq_true rfl)) dL_law_1401 ⟨hc, hs⟩) hS (fun r7 B7 H locs hw7 hM hz7 hS => ?_)
    obtain ⟨rfl, hB7⟩ := hw7
    rw [hB7] at hM
    obtain ⟨w2, hH, hM2, hF2⟩ := hM
    rw [t27_v]
    have ko2 : zK w2 o9 = 14 := (hF2.1 o9).trans k_o
    have no2 : zN w2 o9 = 1 := (hF2.2.2.1 o9).trans n_o
    refine lv_iload hx hb dL_law_1404 (lv_at hl 1 rfl) ?_
    refine lv_icmp_eq (tgt := 1411) hx hb dL_law_1406 (by decide) (fun c_5 => ?_) (fun c_5 => absurd (rfl) c_5)
    refine lv_iload hx hb dL_law_1411 (lv_at hl 1 rfl) ?_
    refine lv_if_ne (tgt := 1428) hx hb dL_law_1413 (by decide) (fun _ => ?_) (fun h9 => absurd h9 hcd)
    refine lv_goto (tgt := 1431) hx hb dL_law_1428 (by decide) ?_
    have hl_6 : lv_has ls 7 [(0, .ref b), (1, .ref x), (2, .ref y), (3, .ref o9), (4, .int (nI k))] := lv_sub hl [2, 3, 4, 5, 6] rfl
    exact kk w2 _ _ _ _ ⟨Rep_mFr (Rep_27 hRep _) hF2, hM2, mJ_27 hJ _, ko2, no2⟩ hH hS hl_6
