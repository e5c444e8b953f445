theorem vP_no {w : zW} {A : Nat} {ad : Nat → Nat} {B : mB} (hinv : mInv B) {its : Int32} (h : vP B its = false) (hQ : ∀ i, i < 10 → zQ w A i = if i < nP B then some (ad i) else none) : ∀ i, i < 10 → its = nI i → zQ w A i = none := by
  intro i hi e
  rw [hQ i hi]
  by_cases c : i < nP B
  · exact absurd (h.symm.trans ((vP_iff hinv).mpr ⟨i, c, e⟩)) (by decide)
  · rw [if_neg c]
theorem vO_no {w : zW} {A : Nat} {ad : Nat → Nat} {B : mB} (hinv : mInv B) {its : Int32} (h : vO B its = false) (hQ : ∀ i, i < 8 → zQ w A i = if i < nO B then some (ad i) else none) : ∀ i, i < 8 → its = nI i → zQ w A i = none := by
  intro i hi e
  rw [hQ i hi]
  by_cases c : i < nO B
  · exact absurd (h.symm.trans ((vO_iff hinv).mpr ⟨i, c, e⟩)) (by decide)
  · rw [if_neg c]
theorem vK_no {w : zW} {A : Nat} {k : Int32} (h : vLies k 0 2 = false) : ∀ i, i < 3 → k = nI i → zQ w A i = none := by
  intro i hi e
  exact absurd (h.symm.trans ((vLies_nat (n := 3) (by decide)).mpr ⟨i, hi, e⟩)) (by decide)
def thr1 (cd : Int32) (E : String) : Prop := cd = 1 ∧ E = zIob
def thr2 (cd : Int32) (E : String) : Prop := (cd = 1 ∧ E = zIob) ∨ (cd = 2 ∧ E = zIse)
def thr3 (cd : Int32) (E : String) : Prop := (cd = 1 ∧ E = zIob) ∨ (cd = 2 ∧ E = zIae) ∨ (cd = 3 ∧ E = zIse)
def thrA (cd : Int32) (E : String) : Prop := (cd = 1 ∧ E = zIae) ∨ (cd = 2 ∧ E = zIse)
theorem sMin {g m : Int32} : (if m < g then m else g) = (if g < m then g else m) := by
  by_cases h : m < g
  · rw [if_pos h]
    by_cases k : g < m
    · exact absurd (Int32.lt_trans h k) Int32.lt_irrefl
    · rw [if_neg k]
  · rw [if_neg h]
    by_cases k : g < m
    · rw [if_pos k]
    · rw [if_neg k]; exact Int32.le_antisymm (Int32.not_lt.mp h) (Int32.not_lt.mp k)
set_option maxHeartbeats 4000000 in
set_option maxRecDepth 100000 in
theorem c5_regime (l : Launch) (hl9 : l.stackTraces = false) (D : va_G) (cy : Nat → ClassId) (base : Nat) (w : zW) (x : Nat) (ad : Nat → Nat → Nat) (B : mB) (its : Int32) (hR : rAll w x ad B) (hinv : mInv B) (hinv2 : mInv2 B) : vx_Met l yX5_regime wsX5_regime ({ frames := 7, cells := 1, slots := 6, locals := 112 }) (zPc D cy base (zH D cy base) [.ref x, .int its] w) (zQi base (zH D cy base) (fun (r0 : Int32) (u0 : zW) => (cd_P B its) = 0 ∧ r0 = (an_of B 6 its) ∧ Rep u0 x B ∧ cFr w u0)) (zXC base (zH D cy base) (fun (E : String) (u0 : zW) => thr1 (cd_P B its) E ∧ u0 = w)) 1 6 (fun q => base ≤ q) := by
  refine vx_ofW (cc := cX5_regime) (maxL := 2) (ret := (some .int)) (by decide) rfl ?_
  intro p e s m args below meth c s₁ B9 hml htab hv
  obtain ⟨rfl, hA, hH⟩ := hv
  have hx := B9.exec
  have hb := B9.bytes
  have hr := B9.returns
  have hts := atoms_spec (ws := wsX5_regime) B9.pre
  have hown : s.vm.findClass RX5 = some m.cls := findClass_of_methodNamed B9.named
  have hlocks := B9.notSynchronized
  have hi2 : ∀ w ∈ wsX20, w ∈ wsX5_regime := by decide +kernel
  have hS : va_S (fun q : Nat => base ≤ q) s.heap s.heap [] := va_S.rf
  have hl := lv_entry ([.ref x, .int its]) (n := 2) (Nat.le_of_ble_eq_true rfl)
  rw [lg_entry_eq]
  generalize (lg_sl ([.ref x, .int its]) ++ List.replicate (2 - (lg_sl ([.ref x, .int its])).length) Slot.unset).toArray = ls at hl ⊢
  have hl : lv_has ls 2 [(0, .ref x), (1, .int its)] := hl
  have hR9 := hR
  obtain ⟨⟨⟨k_x, i503, i504, i505⟩, ⟨p500, p501, p502⟩, k_A, n_A, k_O, n_O, k_T, n_T⟩, ⟨qA, qO, qT⟩, hTool, hPk, ⟨h200, h201, h202, h203, h204, h205, h206, h208, h209, h212, h213⟩, hPo, ⟨h301, h302, h303, hAc⟩, ⟨hOq, hOf⟩, hOr, hInj⟩ := hR9
  rcases vP_split hinv its with ⟨i, rfl, hi, hi10, hvP, hix⟩ | hvP
  · have q_i : zQ w (ad 7 0) i = some (ad 0 i) := by rw [qA i hi10, if_pos hi]
    obtain ⟨k_p, p207, p211, k_f, n_f, k_q, p300, k_r, n_r⟩ := hPk i hi
    refine lv_aload_n hx hb dX5_regime_0 rfl (lv_at hl 0 rfl) ?_
    refine lv_iload_n hx hb dX5_regime_1 rfl (lv_at hl 1 rfl) ?_
    refine z_xcallr (vx_runV (As := [.int (nI i)]) (rest := []) ⟨hx, hb, hml, hown, hts⟩ (c5_findPerson_t l hl9 D cy base w x i (ad 7 0) (ad 0 i) k_x p500 k_A n_A q_i hi10) (cwV 1 hts gX5_regime_X5_findPerson rfl rfl rfl (by decide +kernel) ⟨Nat.le_of_ble_eq_true rfl, Nat.le_of_ble_eq_true rfl⟩) (z_preV hA hS hH (z_recv hA hH (zk0 k_x (by decide)) (zE_k6 k_x) (q := (RX5, TX5, 6)) rfl)) rfl rfl hl.1 rfl (lv_room (Nat.le_of_ble_eq_true rfl)) dX5_regime_2 ⟨Nat.le_of_ble_eq_true rfl, Nat.le_of_ble_eq_true rfl⟩) hS (fun E_k_1 ce_k_1 q9_k_1 u_k_1 H locs hw_k_1 hH hz_k_1 hS hce_k_1 hv_k_1 hcl_k_1 => ?_) (fun r_k_1 u_k_1 H locs hw_k_1 hH hz_k_1 hS => ?_)
    · exact hw_k_1.elim
    · rcases hw_k_1 with ⟨rfl, hu_k_1⟩
      rw [hu_k_1] at hH
      refine z_get (C := RX2) (T := TX2) (N := 14) (ci := 2) (index := 91) (v := .int (zI w 203 (ad 0 i))) hx hb hts hi2 hown hA hH (zk0 k_p (by decide)) (zE_k3 k_p) rfl 3 (by decide) (hts (.fieldLink RX5 91 "ParoleCards$Person" "regimeNow" "I") (by decide +kernel)) (fun _ h9 => h9) rfl dX5_regime_5 ?_
      refine vx_ret ?_
      exact z_iret hx hb hr hlocks hH hS (by
        have hc : (cd_P B (nI i)) = 0 := by first | (simp [cd_P, hvP, hix]; done) | (simp_all [cd_P]; done)
        refine ⟨hc, ?_, ⟨ad, hR⟩, cFr_rf _⟩
        simp [an_of, hix, h203 i hi]) (by decide) (by decide) dX5_regime_8
  · have hno := vP_no hinv hvP qA
    refine lv_aload_n hx hb dX5_regime_0 rfl (lv_at hl 0 rfl) ?_
    refine lv_iload_n hx hb dX5_regime_1 rfl (lv_at hl 1 rfl) ?_
    refine z_xcallr (vx_runV (As := [.int its]) (rest := []) ⟨hx, hb, hml, hown, hts⟩ (c5_findPerson_f l hl9 D cy base w x its (ad 7 0) k_x p500 k_A n_A hno) (cwV 1 hts gX5_regime_X5_findPerson rfl rfl rfl (by decide +kernel) ⟨Nat.le_of_ble_eq_true rfl, Nat.le_of_ble_eq_true rfl⟩) (z_preV hA hS hH (z_recv hA hH (zk0 k_x (by decide)) (zE_k6 k_x) (q := (RX5, TX5, 6)) rfl)) rfl rfl hl.1 rfl (lv_room (Nat.le_of_ble_eq_true rfl)) dX5_regime_2 ⟨Nat.le_of_ble_eq_true rfl, Nat.le_of_ble_eq_true rfl⟩) hS (fun E_k_2 ce_k_2 q9_k_2 u_k_2 H locs hw_k_2 hH hz_k_2 hS hce_k_2 hv_k_2 hcl_k_2 => ?_) (fun r_k_2 u_k_2 H locs hw_k_2 hH hz_k_2 hS => ?_)
    · obtain ⟨rfl, hu_k_2⟩ := hw_k_2
      rw [hu_k_2] at hH
      exact z_out htab hlocks hH hS hce_k_2 hv_k_2 hcl_k_2 (by
        have hc : (cd_P B its) = 1 := by first | (simp [cd_P, hvP]; done) | (simp_all [cd_P]; done)
        exact ⟨⟨hc, rfl⟩, rfl⟩) (by decide) (by decide)
    · exact hw_k_2.elim
set_option maxHeartbeats 4000000 in
set_option maxRecDepth 100000 in
theorem c5_paidOut (l : Launch) (hl9 : l.stackTraces = false) (D : va_G) (cy : Nat → ClassId) (base : Nat) (w : zW) (x : Nat) (ad : Nat → Nat → Nat) (B : mB) (its : Int32) (hR : rAll w x ad B) (hinv : mInv B) (hinv2 : mInv2 B) : vx_Met l yX5_paidOut wsX5_paidOut ({ frames := 7, cells := 1, slots := 6, locals := 112 }) (zPc D cy base (zH D cy base) [.ref x, .int its] w) (zQi base (zH D cy base) (fun (r0 : Int32) (u0 : zW) => (cd_P B its) = 0 ∧ r0 = (an_of B 13 its) ∧ Rep u0 x B ∧ cFr w u0)) (zXC base (zH D cy base) (fun (E : String) (u0 : zW) => thr1 (cd_P B its) E ∧ u0 = w)) 1 6 (fun q => base ≤ q) := by
  refine vx_ofW (cc := cX5_paidOut) (maxL := 2) (ret := (some .int)) (by decide) rfl ?_
  intro p e s m args below meth c s₁ B9 hml htab hv
  obtain ⟨rfl, hA, hH⟩ := hv
  have hx := B9.exec
  have hb := B9.bytes
  have hr := B9.returns
  have hts := atoms_spec (ws := wsX5_paidOut) B9.pre
  have hown : s.vm.findClass RX5 = some m.cls := findClass_of_methodNamed B9.named
  have hlocks := B9.notSynchronized
  have hi2 : ∀ w ∈ wsX20, w ∈ wsX5_paidOut := by decide +kernel
  have hi3 : ∀ w ∈ wsX30, w ∈ wsX5_paidOut := by decide +kernel
  have hS : va_S (fun q : Nat => base ≤ q) s.heap s.heap [] := va_S.rf
  have hl := lv_entry ([.ref x, .int its]) (n := 2) (Nat.le_of_ble_eq_true rfl)
  rw [lg_entry_eq]
  generalize (lg_sl ([.ref x, .int its]) ++ List.replicate (2 - (lg_sl ([.ref x, .int its])).length) Slot.unset).toArray = ls at hl ⊢
  have hl : lv_has ls 2 [(0, .ref x), (1, .int its)] := hl
  have hR9 := hR
  obtain ⟨⟨⟨k_x, i503, i504, i505⟩, ⟨p500, p501, p502⟩, k_A, n_A, k_O, n_O, k_T, n_T⟩, ⟨qA, qO, qT⟩, hTool, hPk, ⟨h200, h201, h202, h203, h204, h205, h206, h208, h209, h212, h213⟩, hPo, ⟨h301, h302, h303, hAc⟩, ⟨hOq, hOf⟩, hOr, hInj⟩ := hR9
  rcases vP_split hinv its with ⟨i, rfl, hi, hi10, hvP, hix⟩ | hvP
  · have q_i : zQ w (ad 7 0) i = some (ad 0 i) := by rw [qA i hi10, if_pos hi]
    obtain ⟨k_p, p207, p211, k_f, n_f, k_q, p300, k_r, n_r⟩ := hPk i hi
    refine lv_aload_n hx hb dX5_paidOut_0 rfl (lv_at hl 0 rfl) ?_
    refine lv_iload_n hx hb dX5_paidOut_1 rfl (lv_at hl 1 rfl) ?_
    refine z_xcallr (vx_runV (As := [.int (nI i)]) (rest := []) ⟨hx, hb, hml, hown, hts⟩ (c5_findPerson_t l hl9 D cy base w x i (ad 7 0) (ad 0 i) k_x p500 k_A n_A q_i hi10) (cwV 1 hts gX5_paidOut_X5_findPerson rfl rfl rfl (by decide +kernel) ⟨Nat.le_of_ble_eq_true rfl, Nat.le_of_ble_eq_true rfl⟩) (z_preV hA hS hH (z_recv hA hH (zk0 k_x (by decide)) (zE_k6 k_x) (q := (RX5, TX5, 6)) rfl)) rfl rfl hl.1 rfl (lv_room (Nat.le_of_ble_eq_true rfl)) dX5_paidOut_2 ⟨Nat.le_of_ble_eq_true rfl, Nat.le_of_ble_eq_true rfl⟩) hS (fun E_k_1 ce_k_1 q9_k_1 u_k_1 H locs hw_k_1 hH hz_k_1 hS hce_k_1 hv_k_1 hcl_k_1 => ?_) (fun r_k_1 u_k_1 H locs hw_k_1 hH hz_k_1 hS => ?_)
    · exact hw_k_1.elim
    · rcases hw_k_1 with ⟨rfl, hu_k_1⟩
      rw [hu_k_1] at hH
      refine z_get (C := RX2) (T := TX2) (N := 14) (ci := 2) (index := 166) (v := .ref (ad 1 i)) hx hb hts hi2 hown hA hH (zk0 k_p (by decide)) (zE_k3 k_p) rfl 11 (by decide) (hts (.fieldLink RX5 166 "ParoleCards$Person" "purse" "LParoleCards$Purse;") (by decide +kernel)) (fun _ h9 => h9) (congrArg (fun z => some (va_rf z)) p211) dX5_paidOut_5 ?_
      refine z_get (C := RX3) (T := TX3) (N := 4) (ci := 3) (index := 192) (v := .int (zI w 303 (ad 1 i))) hx hb hts hi3 hown hA hH (zk0 k_q (by decide)) (zE_k4 k_q) rfl 3 (by decide) (hts (.fieldLink RX5 192 "ParoleCards$Purse" "paidOutSum" "I") (by decide +kernel)) (fun _ h9 => h9) rfl dX5_paidOut_8 ?_
      refine vx_ret ?_
      exact z_iret hx hb hr hlocks hH hS (by
        have hc : (cd_P B (nI i)) = 0 := by first | (simp [cd_P, hvP, hix]; done) | (simp_all [cd_P]; done)
        refine ⟨hc, ?_, ⟨ad, hR⟩, cFr_rf _⟩
        simp [an_of, hix, h303 i hi]) (by decide) (by decide) dX5_paidOut_11
  · have hno := vP_no hinv hvP qA
    refine lv_aload_n hx hb dX5_paidOut_0 rfl (lv_at hl 0 rfl) ?_
    refine lv_iload_n hx hb dX5_paidOut_1 rfl (lv_at hl 1 rfl) ?_
    refine z_xcallr (vx_runV (As := [.int its]) (rest := []) ⟨hx, hb, hml, hown, hts⟩ (c5_findPerson_f l hl9 D cy base w x its (ad 7 0) k_x p500 k_A n_A hno) (cwV 1 hts gX5_paidOut_X5_findPerson rfl rfl rfl (by decide +kernel) ⟨Nat.le_of_ble_eq_true rfl, Nat.le_of_ble_eq_true rfl⟩) (z_preV hA hS hH (z_recv hA hH (zk0 k_x (by decide)) (zE_k6 k_x) (q := (RX5, TX5, 6)) rfl)) rfl rfl hl.1 rfl (lv_room (Nat.le_of_ble_eq_true rfl)) dX5_paidOut_2 ⟨Nat.le_of_ble_eq_true rfl, Nat.le_of_ble_eq_true rfl⟩) hS (fun E_k_2 ce_k_2 q9_k_2 u_k_2 H locs hw_k_2 hH hz_k_2 hS hce_k_2 hv_k_2 hcl_k_2 => ?_) (fun r_k_2 u_k_2 H locs hw_k_2 hH hz_k_2 hS => ?_)
    · obtain ⟨rfl, hu_k_2⟩ := hw_k_2
      rw [hu_k_2] at hH
      exact z_out htab hlocks hH hS hce_k_2 hv_k_2 hcl_k_2 (by
        have hc : (cd_P B its) = 1 := by first | (simp [cd_P, hvP]; done) | (simp_all [cd_P]; done)
        exact ⟨⟨hc, rfl⟩, rfl⟩) (by decide) (by decide)
    · exact hw_k_2.elim
set_option maxHeartbeats 4000000 in
set_option maxRecDepth 100000 in
theorem c5_isIn (l : Launch) (hl9 : l.stackTraces = false) (D : va_G) (cy : Nat → ClassId) (base : Nat) (w : zW) (x : Nat) (ad : Nat → Nat → Nat) (B : mB) (its : Int32) (hR : rAll w x ad B) (hinv : mInv B) (hinv2 : mInv2 B) : vx_Met l yX5_isIn wsX5_isIn ({ frames := 7, cells := 1, slots := 6, locals := 112 }) (zPc D cy base (zH D cy base) [.ref x, .int its] w) (zQi base (zH D cy base) (fun (r0 : Int32) (u0 : zW) => (cd_P B its) = 0 ∧ r0 = (an_isIn B its) ∧ Rep u0 x B ∧ cFr w u0)) (zXC base (zH D cy base) (fun (E : String) (u0 : zW) => thr1 (cd_P B its) E ∧ u0 = w)) 1 6 (fun q => base ≤ q) := by
  refine vx_ofW (cc := cX5_isIn) (maxL := 2) (ret := (some .boolean)) (by decide) rfl ?_
  intro p e s m args below meth c s₁ B9 hml htab hv
  obtain ⟨rfl, hA, hH⟩ := hv
  have hx := B9.exec
  have hb := B9.bytes
  have hr := B9.returns
  have hts := atoms_spec (ws := wsX5_isIn) B9.pre
  have hown : s.vm.findClass RX5 = some m.cls := findClass_of_methodNamed B9.named
  have hlocks := B9.notSynchronized
  have hi2 : ∀ w ∈ wsX20, w ∈ wsX5_isIn := by decide +kernel
  have hS : va_S (fun q : Nat => base ≤ q) s.heap s.heap [] := va_S.rf
  have hl := lv_entry ([.ref x, .int its]) (n := 2) (Nat.le_of_ble_eq_true rfl)
  rw [lg_entry_eq]
  generalize (lg_sl ([.ref x, .int its]) ++ List.replicate (2 - (lg_sl ([.ref x, .int its])).length) Slot.unset).toArray = ls at hl ⊢
  have hl : lv_has ls 2 [(0, .ref x), (1, .int its)] := hl
  have hR9 := hR
  obtain ⟨⟨⟨k_x, i503, i504, i505⟩, ⟨p500, p501, p502⟩, k_A, n_A, k_O, n_O, k_T, n_T⟩, ⟨qA, qO, qT⟩, hTool, hPk, ⟨h200, h201, h202, h203, h204, h205, h206, h208, h209, h212, h213⟩, hPo, ⟨h301, h302, h303, hAc⟩, ⟨hOq, hOf⟩, hOr, hInj⟩ := hR9
  rcases vP_split hinv its with ⟨i, rfl, hi, hi10, hvP, hix⟩ | hvP
  · have q_i : zQ w (ad 7 0) i = some (ad 0 i) := by rw [qA i hi10, if_pos hi]
    obtain ⟨k_p, p207, p211, k_f, n_f, k_q, p300, k_r, n_r⟩ := hPk i hi
    refine lv_aload_n hx hb dX5_isIn_0 rfl (lv_at hl 0 rfl) ?_
    refine lv_iload_n hx hb dX5_isIn_1 rfl (lv_at hl 1 rfl) ?_
    refine z_xcallr (vx_runV (As := [.int (nI i)]) (rest := []) ⟨hx, hb, hml, hown, hts⟩ (c5_findPerson_t l hl9 D cy base w x i (ad 7 0) (ad 0 i) k_x p500 k_A n_A q_i hi10) (cwV 1 hts gX5_isIn_X5_findPerson rfl rfl rfl (by decide +kernel) ⟨Nat.le_of_ble_eq_true rfl, Nat.le_of_ble_eq_true rfl⟩) (z_preV hA hS hH (z_recv hA hH (zk0 k_x (by decide)) (zE_k6 k_x) (q := (RX5, TX5, 6)) rfl)) rfl rfl hl.1 rfl (lv_room (Nat.le_of_ble_eq_true rfl)) dX5_isIn_2 ⟨Nat.le_of_ble_eq_true rfl, Nat.le_of_ble_eq_true rfl⟩) hS (fun E_k_1 ce_k_1 q9_k_1 u_k_1 H locs hw_k_1 hH hz_k_1 hS hce_k_1 hv_k_1 hcl_k_1 => ?_) (fun r_k_1 u_k_1 H locs hw_k_1 hH hz_k_1 hS => ?_)
    · exact hw_k_1.elim
    · rcases hw_k_1 with ⟨rfl, hu_k_1⟩
      rw [hu_k_1] at hH
      refine z_get (C := RX2) (T := TX2) (N := 14) (ci := 2) (index := 88) (v := .int (zI w 212 (ad 0 i))) hx hb hts hi2 hown hA hH (zk0 k_p (by decide)) (zE_k3 k_p) rfl 12 (by decide) (hts (.fieldLink RX5 88 "ParoleCards$Person" "released" "Z") (by decide +kernel)) (fun _ h9 => h9) rfl dX5_isIn_5 ?_
      refine lv_if_ne (tgt := 15) hx hb dX5_isIn_8 (by decide) (fun c_2 => ?_) (fun c_2 => ?_)
      · refine lv_iconst (v := 0) hx hb dX5_isIn_15 (by decide) ?_
        refine vx_ret ?_
        exact z_zret hx hb hr hlocks hH hS rfl (by
          have hc : (cd_P B (nI i)) = 0 := by first | (simp [cd_P, c_2, hvP, hix]; done) | (simp_all [cd_P]; done)
          refine ⟨hc, ?_, ⟨ad, hR⟩, cFr_rf _⟩
          simp [an_isIn, hix, ← h212 i hi, c_2]) (by decide) (by decide) dX5_isIn_16
      · refine lv_iconst (v := 1) hx hb dX5_isIn_11 (by decide) ?_
        refine lv_goto (tgt := 16) hx hb dX5_isIn_12 (by decide) ?_
        refine vx_ret ?_
        exact z_zret hx hb hr hlocks hH hS rfl (by
          have hc : (cd_P B (nI i)) = 0 := by first | (simp [cd_P, c_2, hvP, hix]; done) | (simp_all [cd_P]; done)
          refine ⟨hc, ?_, ⟨ad, hR⟩, cFr_rf _⟩
          simp [an_isIn, hix, ← h212 i hi, c_2]) (by decide) (by decide) dX5_isIn_16
  · have hno := vP_no hinv hvP qA
    refine lv_aload_n hx hb dX5_isIn_0 rfl (lv_at hl 0 rfl) ?_
    refine lv_iload_n hx hb dX5_isIn_1 rfl (lv_at hl 1 rfl) ?_
    refine z_xcallr (vx_runV (As := [.int its]) (rest := []) ⟨hx, hb, hml, hown, hts⟩ (c5_findPerson_f l hl9 D cy base w x its (ad 7 0) k_x p500 k_A n_A hno) (cwV 1 hts gX5_isIn_X5_findPerson rfl rfl rfl (by decide +kernel) ⟨Nat.le_of_ble_eq_true rfl, Nat.le_of_ble_eq_true rfl⟩) (z_preV hA hS hH (z_recv hA hH (zk0 k_x (by decide)) (zE_k6 k_x) (q := (RX5, TX5, 6)) rfl)) rfl rfl hl.1 rfl (lv_room (Nat.le_of_ble_eq_true rfl)) dX5_isIn_2 ⟨Nat.le_of_ble_eq_true rfl, Nat.le_of_ble_eq_true rfl⟩) hS (fun E_k_3 ce_k_3 q9_k_3 u_k_3 H locs hw_k_3 hH hz_k_3 hS hce_k_3 hv_k_3 hcl_k_3 => ?_) (fun r_k_3 u_k_3 H locs hw_k_3 hH hz_k_3 hS => ?_)
    · obtain ⟨rfl, hu_k_3⟩ := hw_k_3
      rw [hu_k_3] at hH
      exact z_out htab hlocks hH hS hce_k_3 hv_k_3 hcl_k_3 (by
        have hc : (cd_P B its) = 1 := by first | (simp [cd_P, hvP]; done) | (simp_all [cd_P]; done)
        exact ⟨⟨hc, rfl⟩, rfl⟩) (by decide) (by decide)
    · exact hw_k_3.elim
set_option maxHeartbeats 4000000 in
set_option maxRecDepth 100000 in
theorem c5_release (l : Launch) (hl9 : l.stackTraces = false) (D : va_G) (cy : Nat → ClassId) (base : Nat) (w : zW) (x : Nat) (ad : Nat → Nat → Nat) (B : mB) (its : Int32) (hR : rAll w x ad B) (hinv : mInv B) (hinv2 : mInv2 B) : vx_Met l yX5_release wsX5_release ({ frames := 7, cells := 1, slots := 6, locals := 112 }) (zPc D cy base (zH D cy base) [.ref x, .int its] w) (zQi base (zH D cy base) (fun (r0 : Int32) (u0 : zW) => (cd_P B its) = 0 ∧ r0 = (an_release B its) ∧ Rep u0 x B ∧ cFr w u0)) (zXC base (zH D cy base) (fun (E : String) (u0 : zW) => thr1 (cd_P B its) E ∧ u0 = w)) 1 6 (fun q => base ≤ q) := by
  refine vx_ofW (cc := cX5_release) (maxL := 2) (ret := (some .int)) (by decide) rfl ?_
  intro p e s m args below meth c s₁ B9 hml htab hv
  obtain ⟨rfl, hA, hH⟩ := hv
  have hx := B9.exec
  have hb := B9.bytes
  have hr := B9.returns
  have hts := atoms_spec (ws := wsX5_release) B9.pre
  have hown : s.vm.findClass RX5 = some m.cls := findClass_of_methodNamed B9.named
  have hlocks := B9.notSynchronized
  have hS : va_S (fun q : Nat => base ≤ q) s.heap s.heap [] := va_S.rf
  have hl := lv_entry ([.ref x, .int its]) (n := 2) (Nat.le_of_ble_eq_true rfl)
  rw [lg_entry_eq]
  generalize (lg_sl ([.ref x, .int its]) ++ List.replicate (2 - (lg_sl ([.ref x, .int its])).length) Slot.unset).toArray = ls at hl ⊢
  have hl : lv_has ls 2 [(0, .ref x), (1, .int its)] := hl
  have hR9 := hR
  obtain ⟨⟨⟨k_x, i503, i504, i505⟩, ⟨p500, p501, p502⟩, k_A, n_A, k_O, n_O, k_T, n_T⟩, ⟨qA, qO, qT⟩, hTool, hPk, ⟨h200, h201, h202, h203, h204, h205, h206, h208, h209, h212, h213⟩, hPo, ⟨h301, h302, h303, hAc⟩, ⟨hOq, hOf⟩, hOr, hInj⟩ := hR9
  rcases vP_split hinv its with ⟨i, rfl, hi, hi10, hvP, hix⟩ | hvP
  · have q_i : zQ w (ad 7 0) i = some (ad 0 i) := by rw [qA i hi10, if_pos hi]
    obtain ⟨k_p, p207, p211, k_f, n_f, k_q, p300, k_r, n_r⟩ := hPk i hi
    refine lv_aload_n hx hb dX5_release_0 rfl (lv_at hl 0 rfl) ?_
    refine lv_iload_n hx hb dX5_release_1 rfl (lv_at hl 1 rfl) ?_
    refine z_xcallr (vx_runV (As := [.int (nI i)]) (rest := []) ⟨hx, hb, hml, hown, hts⟩ (c5_findPerson_t l hl9 D cy base w x i (ad 7 0) (ad 0 i) k_x p500 k_A n_A q_i hi10) (cwV 1 hts gX5_release_X5_findPerson rfl rfl rfl (by decide +kernel) ⟨Nat.le_of_ble_eq_true rfl, Nat.le_of_ble_eq_true rfl⟩) (z_preV hA hS hH (z_recv hA hH (zk0 k_x (by decide)) (zE_k6 k_x) (q := (RX5, TX5, 6)) rfl)) rfl rfl hl.1 rfl (lv_room (Nat.le_of_ble_eq_true rfl)) dX5_release_2 ⟨Nat.le_of_ble_eq_true rfl, Nat.le_of_ble_eq_true rfl⟩) hS (fun E_k_1 ce_k_1 q9_k_1 u_k_1 H locs hw_k_1 hH hz_k_1 hS hce_k_1 hv_k_1 hcl_k_1 => ?_) (fun r_k_1 u_k_1 H locs hw_k_1 hH hz_k_1 hS => ?_)
    · exact hw_k_1.elim
    · rcases hw_k_1 with ⟨rfl, hu_k_1⟩
      rw [hu_k_1] at hH
      refine z_calli (va_runV (As := []) (rest := []) ⟨hx, hb, hml, hown, hts⟩ (c2_releaseDay l D cy base w (ad 0 i) k_p) (cwV 0 hts gX5_release_X2_releaseDay rfl rfl rfl (by decide +kernel) ⟨Nat.le_of_ble_eq_true rfl, Nat.le_of_ble_eq_true rfl⟩) (z_preV hA hS hH (z_recv hA hH (zk0 k_p (by decide)) (zE_k3 k_p) (q := (RX2, TX2, 14)) rfl)) rfl rfl hl.1 rfl (lv_room (Nat.le_of_ble_eq_true rfl)) dX5_release_5 ⟨Nat.le_of_ble_eq_true rfl, Nat.le_of_ble_eq_true rfl⟩) hS (fun r_k_2 u_k_2 H locs hw_k_2 hH hz_k_2 hS => ?_)
      rcases hw_k_2 with ⟨h_k_2_0, rfl, hu_k_2⟩ | ⟨h_k_2_0, rfl, hu_k_2⟩
      · rw [hu_k_2] at hH
        refine vx_ret ?_
        exact z_iret hx hb hr hlocks hH hS (by
          have hc : (cd_P B (nI i)) = 0 := by first | (simp [cd_P, h_k_2_0, hvP, hix]; done) | (simp_all [cd_P]; done)
          refine ⟨hc, ?_, ⟨ad, hR⟩, cFr_rf _⟩
          have e9 := h_k_2_0
          rw [h212 i hi] at e9
          simp [an_release, hix, sRel, sGain, e9, h200 i hi, h201 i hi, h204 i hi, h206 i hi, h209 i hi, h213 i hi, sMin]) (by decide) (by decide) dX5_release_8
      · rw [hu_k_2] at hH
        refine vx_ret ?_
        exact z_iret hx hb hr hlocks hH hS (by
          have hc : (cd_P B (nI i)) = 0 := by first | (simp [cd_P, h_k_2_0, hvP, hix]; done) | (simp_all [cd_P]; done)
          refine ⟨hc, ?_, ⟨ad, hR⟩, cFr_rf _⟩
          have e9 := h_k_2_0
          rw [h212 i hi] at e9
          simp [an_release, hix, sRel, sGain, e9, h200 i hi, h201 i hi, h204 i hi, h206 i hi, h209 i hi, h213 i hi, sMin]) (by decide) (by decide) dX5_release_8
  · have hno := vP_no hinv hvP qA
    refine lv_aload_n hx hb dX5_release_0 rfl (lv_at hl 0 rfl) ?_
    refine lv_iload_n hx hb dX5_release_1 rfl (lv_at hl 1 rfl) ?_
    refine z_xcallr (vx_runV (As := [.int its]) (rest := []) ⟨hx, hb, hml, hown, hts⟩ (c5_findPerson_f l hl9 D cy base w x its (ad 7 0) k_x p500 k_A n_A hno) (cwV 1 hts gX5_release_X5_findPerson rfl rfl rfl (by decide +kernel) ⟨Nat.le_of_ble_eq_true rfl, Nat.le_of_ble_eq_true rfl⟩) (z_preV hA hS hH (z_recv hA hH (zk0 k_x (by decide)) (zE_k6 k_x) (q := (RX5, TX5, 6)) rfl)) rfl rfl hl.1 rfl (lv_room (Nat.le_of_ble_eq_true rfl)) dX5_release_2 ⟨Nat.le_of_ble_eq_true rfl, Nat.le_of_ble_eq_true rfl⟩) hS (fun E_k_3 ce_k_3 q9_k_3 u_k_3 H locs hw_k_3 hH hz_k_3 hS hce_k_3 hv_k_3 hcl_k_3 => ?_) (fun r_k_3 u_k_3 H locs hw_k_3 hH hz_k_3 hS => ?_)
    · obtain ⟨rfl, hu_k_3⟩ := hw_k_3
      rw [hu_k_3] at hH
      exact z_out htab hlocks hH hS hce_k_3 hv_k_3 hcl_k_3 (by
        have hc : (cd_P B its) = 1 := by first | (simp [cd_P, hvP]; done) | (simp_all [cd_P]; done)
        exact ⟨⟨hc, rfl⟩, rfl⟩) (by decide) (by decide)
    · exact hw_k_3.elim
set_option maxHeartbeats 4000000 in
set_option maxRecDepth 100000 in
theorem c5_papers (l : Launch) (hl9 : l.stackTraces = false) (D : va_G) (cy : Nat → ClassId) (base : Nat) (w : zW) (x : Nat) (ad : Nat → Nat → Nat) (B : mB) (its : Int32) (lost : Int32) (hR : rAll w x ad B) (hinv : mInv B) (hinv2 : mInv2 B) : vx_Met l yX5_papers wsX5_papers ({ frames := 7, cells := 1, slots := 6, locals := 112 }) (zPc D cy base (zH D cy base) [.ref x, .int its, .int lost] w) (zQi base (zH D cy base) (fun (r0 : Int32) (u0 : zW) => (cd_P B its) = 0 ∧ r0 = (an_papers B its lost) ∧ Rep u0 x B ∧ cFr w u0)) (zXC base (zH D cy base) (fun (E : String) (u0 : zW) => thr1 (cd_P B its) E ∧ u0 = w)) 1 6 (fun q => base ≤ q) := by
  refine vx_ofW (cc := cX5_papers) (maxL := 4) (ret := (some .int)) (by decide) rfl ?_
  intro p e s m args below meth c s₁ B9 hml htab hv
  obtain ⟨rfl, hA, hH⟩ := hv
  have hx := B9.exec
  have hb := B9.bytes
  have hr := B9.returns
  have hts := atoms_spec (ws := wsX5_papers) B9.pre
  have hown : s.vm.findClass RX5 = some m.cls := findClass_of_methodNamed B9.named
  have hlocks := B9.notSynchronized
  have hi2 : ∀ w ∈ wsX20, w ∈ wsX5_papers := by decide +kernel
  have hS : va_S (fun q : Nat => base ≤ q) s.heap s.heap [] := va_S.rf
  have hl := lv_entry ([.ref x, .int its, .int lost]) (n := 4) (Nat.le_of_ble_eq_true rfl)
  rw [lg_entry_eq]
  generalize (lg_sl ([.ref x, .int its, .int lost]) ++ List.replicate (4 - (lg_sl ([.ref x, .int its, .int lost])).length) Slot.unset).toArray = ls at hl ⊢
  have hl : lv_has ls 4 [(0, .ref x), (1, .int its), (2, .int lost)] := hl
  have hR9 := hR
  obtain ⟨⟨⟨k_x, i503, i504, i505⟩, ⟨p500, p501, p502⟩, k_A, n_A, k_O, n_O, k_T, n_T⟩, ⟨qA, qO, qT⟩, hTool, hPk, ⟨h200, h201, h202, h203, h204, h205, h206, h208, h209, h212, h213⟩, hPo, ⟨h301, h302, h303, hAc⟩, ⟨hOq, hOf⟩, hOr, hInj⟩ := hR9
  rcases vP_split hinv its with ⟨i, rfl, hi, hi10, hvP, hix⟩ | hvP
  · have q_i : zQ w (ad 7 0) i = some (ad 0 i) := by rw [qA i hi10, if_pos hi]
    obtain ⟨k_p, p207, p211, k_f, n_f, k_q, p300, k_r, n_r⟩ := hPk i hi
    refine lv_aload_n hx hb dX5_papers_0 rfl (lv_at hl 0 rfl) ?_
    refine lv_iload_n hx hb dX5_papers_1 rfl (lv_at hl 1 rfl) ?_
    refine z_xcallr (vx_runV (As := [.int (nI i)]) (rest := []) ⟨hx, hb, hml, hown, hts⟩ (c5_findPerson_t l hl9 D cy base w x i (ad 7 0) (ad 0 i) k_x p500 k_A n_A q_i hi10) (cwV 1 hts gX5_papers_X5_findPerson rfl rfl rfl (by decide +kernel) ⟨Nat.le_of_ble_eq_true rfl, Nat.le_of_ble_eq_true rfl⟩) (z_preV hA hS hH (z_recv hA hH (zk0 k_x (by decide)) (zE_k6 k_x) (q := (RX5, TX5, 6)) rfl)) rfl rfl hl.1 rfl (lv_room (Nat.le_of_ble_eq_true rfl)) dX5_papers_2 ⟨Nat.le_of_ble_eq_true rfl, Nat.le_of_ble_eq_true rfl⟩) hS (fun E_k_1 ce_k_1 q9_k_1 u_k_1 H locs hw_k_1 hH hz_k_1 hS hce_k_1 hv_k_1 hcl_k_1 => ?_) (fun r_k_1 u_k_1 H locs hw_k_1 hH hz_k_1 hS => ?_)
    · exact hw_k_1.elim
    · rcases hw_k_1 with ⟨rfl, hu_k_1⟩
      rw [hu_k_1] at hH
      refine lv_astore_n (lv' := [(3, .ref (ad 0 i)), (0, .ref x), (1, .int (nI i)), (2, .int lost)]) hx hb dX5_papers_5 rfl hl (by decide) rfl (fun ls hl => ?_)
      refine lv_iload_n hx hb dX5_papers_6 rfl (lv_at hl 3 rfl) ?_
      refine lv_if_eq (tgt := 17) hx hb dX5_papers_7 (by decide) (fun c_2 => ?_) (fun c_2 => ?_)
      · refine lv_aload_n hx hb dX5_papers_17 rfl (lv_at hl 0 rfl) ?_
        refine z_calli (va_runV (As := []) (rest := []) ⟨hx, hb, hml, hown, hts⟩ (c2_gainedDays l D cy base w (ad 0 i) k_p) (cwV 0 hts gX5_papers_X2_gainedDays rfl rfl rfl (by decide +kernel) ⟨Nat.le_of_ble_eq_true rfl, Nat.le_of_ble_eq_true rfl⟩) (z_preV hA hS hH (z_recv hA hH (zk0 k_p (by decide)) (zE_k3 k_p) (q := (RX2, TX2, 14)) rfl)) rfl rfl hl.1 rfl (lv_room (Nat.le_of_ble_eq_true rfl)) dX5_papers_18 ⟨Nat.le_of_ble_eq_true rfl, Nat.le_of_ble_eq_true rfl⟩) hS (fun r_k_3 u_k_3 H locs hw_k_3 hH hz_k_3 hS => ?_)
        rcases hw_k_3 with ⟨rfl, hu_k_3⟩
        rw [hu_k_3] at hH
        refine vx_ret ?_
        exact z_iret hx hb hr hlocks hH hS (by
          have hc : (cd_P B (nI i)) = 0 := by first | (simp [cd_P, c_2, hvP, hix]; done) | (simp_all [cd_P]; done)
          refine ⟨hc, ?_, ⟨ad, hR⟩, cFr_rf _⟩
          simp [an_papers, hix, sGain, h204 i hi, h206 i hi, h209 i hi, c_2]) (by decide) (by decide) dX5_papers_21
      · refine lv_aload_n hx hb dX5_papers_10 rfl (lv_at hl 0 rfl) ?_
        refine z_get (C := RX2) (T := TX2) (N := 14) (ci := 2) (index := 94) (v := .int (zI w 209 (ad 0 i))) hx hb hts hi2 hown hA hH (zk0 k_p (by decide)) (zE_k3 k_p) rfl 9 (by decide) (hts (.fieldLink RX5 94 "ParoleCards$Person" "lostDays" "I") (by decide +kernel)) (fun _ h9 => h9) rfl dX5_papers_11 ?_
        refine lv_goto (tgt := 21) hx hb dX5_papers_14 (by decide) ?_
        refine vx_ret ?_
        exact z_iret hx hb hr hlocks hH hS (by
          have hc : (cd_P B (nI i)) = 0 := by first | (simp [cd_P, c_2, hvP, hix]; done) | (simp_all [cd_P]; done)
          refine ⟨hc, ?_, ⟨ad, hR⟩, cFr_rf _⟩
          simp [an_papers, hix, sGain, h204 i hi, h206 i hi, h209 i hi, c_2]) (by decide) (by decide) dX5_papers_21
  · have hno := vP_no hinv hvP qA
    refine lv_aload_n hx hb dX5_papers_0 rfl (lv_at hl 0 rfl) ?_
    refine lv_iload_n hx hb dX5_papers_1 rfl (lv_at hl 1 rfl) ?_
    refine z_xcallr (vx_runV (As := [.int its]) (rest := []) ⟨hx, hb, hml, hown, hts⟩ (c5_findPerson_f l hl9 D cy base w x its (ad 7 0) k_x p500 k_A n_A hno) (cwV 1 hts gX5_papers_X5_findPerson rfl rfl rfl (by decide +kernel) ⟨Nat.le_of_ble_eq_true rfl, Nat.le_of_ble_eq_true rfl⟩) (z_preV hA hS hH (z_recv hA hH (zk0 k_x (by decide)) (zE_k6 k_x) (q := (RX5, TX5, 6)) rfl)) rfl rfl hl.1 rfl (lv_room (Nat.le_of_ble_eq_true rfl)) dX5_papers_2 ⟨Nat.le_of_ble_eq_true rfl, Nat.le_of_ble_eq_true rfl⟩) hS (fun E_k_4 ce_k_4 q9_k_4 u_k_4 H locs hw_k_4 hH hz_k_4 hS hce_k_4 hv_k_4 hcl_k_4 => ?_) (fun r_k_4 u_k_4 H locs hw_k_4 hH hz_k_4 hS => ?_)
    · obtain ⟨rfl, hu_k_4⟩ := hw_k_4
      rw [hu_k_4] at hH
      exact z_out htab hlocks hH hS hce_k_4 hv_k_4 hcl_k_4 (by
        have hc : (cd_P B its) = 1 := by first | (simp [cd_P, hvP]; done) | (simp_all [cd_P]; done)
        exact ⟨⟨hc, rfl⟩, rfl⟩) (by decide) (by decide)
    · exact hw_k_4.elim
set_option maxHeartbeats 4000000 in
set_option maxRecDepth 100000 in
theorem c5_orderOf (l : Launch) (hl9 : l.stackTraces = false) (D : va_G) (cy : Nat → ClassId) (base : Nat) (w : zW) (x : Nat) (ad : Nat → Nat → Nat) (B : mB) (its : Int32) (hR : rAll w x ad B) (hinv : mInv B) (hinv2 : mInv2 B) : vx_Met l yX5_orderOf wsX5_orderOf ({ frames := 7, cells := 1, slots := 6, locals := 112 }) (zPc D cy base (zH D cy base) [.ref x, .int its] w) (zQi base (zH D cy base) (fun (r0 : Int32) (u0 : zW) => (cd_P B its) = 0 ∧ r0 = (an_of B 11 its) ∧ Rep u0 x B ∧ cFr w u0)) (zXC base (zH D cy base) (fun (E : String) (u0 : zW) => thr1 (cd_P B its) E ∧ u0 = w)) 1 6 (fun q => base ≤ q) := by
  refine vx_ofW (cc := cX5_orderOf) (maxL := 3) (ret := (some .int)) (by decide) rfl ?_
  intro p e s m args below meth c s₁ B9 hml htab hv
  obtain ⟨rfl, hA, hH⟩ := hv
  have hx := B9.exec
  have hb := B9.bytes
  have hr := B9.returns
  have hts := atoms_spec (ws := wsX5_orderOf) B9.pre
  have hown : s.vm.findClass RX5 = some m.cls := findClass_of_methodNamed B9.named
  have hlocks := B9.notSynchronized
  have hi1 : ∀ w ∈ wsX10, w ∈ wsX5_orderOf := by decide +kernel
  have hi2 : ∀ w ∈ wsX20, w ∈ wsX5_orderOf := by decide +kernel
  have hS : va_S (fun q : Nat => base ≤ q) s.heap s.heap [] := va_S.rf
  have hl := lv_entry ([.ref x, .int its]) (n := 3) (Nat.le_of_ble_eq_true rfl)
  rw [lg_entry_eq]
  generalize (lg_sl ([.ref x, .int its]) ++ List.replicate (3 - (lg_sl ([.ref x, .int its])).length) Slot.unset).toArray = ls at hl ⊢
  have hl : lv_has ls 3 [(0, .ref x), (1, .int its)] := hl
  have hR9 := hR
  obtain ⟨⟨⟨k_x, i503, i504, i505⟩, ⟨p500, p501, p502⟩, k_A, n_A, k_O, n_O, k_T, n_T⟩, ⟨qA, qO, qT⟩, hTool, hPk, ⟨h200, h201, h202, h203, h204, h205, h206, h208, h209, h212, h213⟩, hPo, ⟨h301, h302, h303, hAc⟩, ⟨hOq, hOf⟩, hOr, hInj⟩ := hR9
  rcases vP_split hinv its with ⟨i, rfl, hi, hi10, hvP, hix⟩ | hvP
  · have q_i : zQ w (ad 7 0) i = some (ad 0 i) := by rw [qA i hi10, if_pos hi]
    obtain ⟨k_p, p207, p211, k_f, n_f, k_q, p300, k_r, n_r⟩ := hPk i hi
    by_cases hon : B 11 i = -1
    · have p210 : zP w 210 (ad 0 i) = none := by rw [hPo i hi, if_pos hon]
      refine lv_aload_n hx hb dX5_orderOf_0 rfl (lv_at hl 0 rfl) ?_
      refine lv_iload_n hx hb dX5_orderOf_1 rfl (lv_at hl 1 rfl) ?_
      refine z_xcallr (vx_runV (As := [.int (nI i)]) (rest := []) ⟨hx, hb, hml, hown, hts⟩ (c5_findPerson_t l hl9 D cy base w x i (ad 7 0) (ad 0 i) k_x p500 k_A n_A q_i hi10) (cwV 1 hts gX5_orderOf_X5_findPerson rfl rfl rfl (by decide +kernel) ⟨Nat.le_of_ble_eq_true rfl, Nat.le_of_ble_eq_true rfl⟩) (z_preV hA hS hH (z_recv hA hH (zk0 k_x (by decide)) (zE_k6 k_x) (q := (RX5, TX5, 6)) rfl)) rfl rfl hl.1 rfl (lv_room (Nat.le_of_ble_eq_true rfl)) dX5_orderOf_2 ⟨Nat.le_of_ble_eq_true rfl, Nat.le_of_ble_eq_true rfl⟩) hS (fun E_k_1 ce_k_1 q9_k_1 u_k_1 H locs hw_k_1 hH hz_k_1 hS hce_k_1 hv_k_1 hcl_k_1 => ?_) (fun r_k_1 u_k_1 H locs hw_k_1 hH hz_k_1 hS => ?_)
      · exact hw_k_1.elim
      · rcases hw_k_1 with ⟨rfl, hu_k_1⟩
        rw [hu_k_1] at hH
        refine z_get (C := RX2) (T := TX2) (N := 14) (ci := 2) (index := 124) (v := .null) hx hb hts hi2 hown hA hH (zk0 k_p (by decide)) (zE_k3 k_p) rfl 10 (by decide) (hts (.fieldLink RX5 124 "ParoleCards$Person" "order" "LParoleCards$Order;") (by decide +kernel)) (fun _ h9 => h9) (congrArg (fun z => some (va_rf z)) p210) dX5_orderOf_5 ?_
        refine lv_astore_nN (lv' := [(2, .null), (0, .ref x), (1, .int (nI i))]) hx hb dX5_orderOf_8 rfl hl (by decide) rfl (fun ls hl => ?_)
        refine lv_aload_nN hx hb dX5_orderOf_9 rfl (lv_at hl 0 rfl) ?_
        refine lv_ifnonnullN hx hb dX5_orderOf_10 ?_
        refine lv_iconst (v := (-1)) hx hb dX5_orderOf_13 (by decide) ?_
        refine lv_goto (tgt := 21) hx hb dX5_orderOf_14 (by decide) ?_
        refine vx_ret ?_
        exact z_iret hx hb hr hlocks hH hS (by
          have hc : (cd_P B (nI i)) = 0 := by first | (simp [cd_P, hvP, hix, hon]; done) | (simp_all [cd_P]; done)
          refine ⟨hc, ?_, ⟨ad, hR⟩, cFr_rf _⟩
          simp [an_of, hix, hon]) (by decide) (by decide) dX5_orderOf_21
    · have p210 : zP w 210 (ad 0 i) = some (ad 5 (ox B i)) := by rw [hPo i hi, if_neg hon]
      obtain ⟨hoe, hoj⟩ := (hinv.2.2.1 i hi).2.2.2.2.resolve_left hon
      obtain ⟨k_o, i100, i101, p102, i103, i104, i105⟩ := hOr (ox B i) hoj
      obtain ⟨k_t, i400, i401⟩ := hTool (kx B (ox B i)) (mInv_kx hinv hoj).2
      refine lv_aload_n hx hb dX5_orderOf_0 rfl (lv_at hl 0 rfl) ?_
      refine lv_iload_n hx hb dX5_orderOf_1 rfl (lv_at hl 1 rfl) ?_
      refine z_xcallr (vx_runV (As := [.int (nI i)]) (rest := []) ⟨hx, hb, hml, hown, hts⟩ (c5_findPerson_t l hl9 D cy base w x i (ad 7 0) (ad 0 i) k_x p500 k_A n_A q_i hi10) (cwV 1 hts gX5_orderOf_X5_findPerson rfl rfl rfl (by decide +kernel) ⟨Nat.le_of_ble_eq_true rfl, Nat.le_of_ble_eq_true rfl⟩) (z_preV hA hS hH (z_recv hA hH (zk0 k_x (by decide)) (zE_k6 k_x) (q := (RX5, TX5, 6)) rfl)) rfl rfl hl.1 rfl (lv_room (Nat.le_of_ble_eq_true rfl)) dX5_orderOf_2 ⟨Nat.le_of_ble_eq_true rfl, Nat.le_of_ble_eq_true rfl⟩) hS (fun E_k_2 ce_k_2 q9_k_2 u_k_2 H locs hw_k_2 hH hz_k_2 hS hce_k_2 hv_k_2 hcl_k_2 => ?_) (fun r_k_2 u_k_2 H locs hw_k_2 hH hz_k_2 hS => ?_)
      · exact hw_k_2.elim
      · rcases hw_k_2 with ⟨rfl, hu_k_2⟩
        rw [hu_k_2] at hH
        refine z_get (C := RX2) (T := TX2) (N := 14) (ci := 2) (index := 124) (v := .ref (ad 5 (ox B i))) hx hb hts hi2 hown hA hH (zk0 k_p (by decide)) (zE_k3 k_p) rfl 10 (by decide) (hts (.fieldLink RX5 124 "ParoleCards$Person" "order" "LParoleCards$Order;") (by decide +kernel)) (fun _ h9 => h9) (congrArg (fun z => some (va_rf z)) p210) dX5_orderOf_5 ?_
        refine lv_astore_n (lv' := [(2, .ref (ad 5 (ox B i))), (0, .ref x), (1, .int (nI i))]) hx hb dX5_orderOf_8 rfl hl (by decide) rfl (fun ls hl => ?_)
        refine lv_aload_n hx hb dX5_orderOf_9 rfl (lv_at hl 0 rfl) ?_
        refine lv_ifnonnull (tgt := 17) hx hb dX5_orderOf_10 (by decide) ?_
        refine lv_aload_n hx hb dX5_orderOf_17 rfl (lv_at hl 0 rfl) ?_
        refine z_get (C := RX1) (T := TX1) (N := 6) (ci := 1) (index := 160) (v := .int (zI w 100 (ad 5 (ox B i)))) hx hb hts hi1 hown hA hH (zk0 k_o (by decide)) (zE_k2 k_o) rfl 0 (by decide) (hts (.fieldLink RX5 160 "ParoleCards$Order" "number" "I") (by decide +kernel)) (fun _ h9 => h9) rfl dX5_orderOf_18 ?_
        refine vx_ret ?_
        exact z_iret hx hb hr hlocks hH hS (by
          have hc : (cd_P B (nI i)) = 0 := by first | (simp [cd_P, hvP, hix, hon]; done) | (simp_all [cd_P]; done)
          refine ⟨hc, ?_, ⟨ad, hR⟩, cFr_rf _⟩
          rw [i100]; simp only [an_of, hix]; exact hoe.symm) (by decide) (by decide) dX5_orderOf_21
  · have hno := vP_no hinv hvP qA
    refine lv_aload_n hx hb dX5_orderOf_0 rfl (lv_at hl 0 rfl) ?_
    refine lv_iload_n hx hb dX5_orderOf_1 rfl (lv_at hl 1 rfl) ?_
    refine z_xcallr (vx_runV (As := [.int its]) (rest := []) ⟨hx, hb, hml, hown, hts⟩ (c5_findPerson_f l hl9 D cy base w x its (ad 7 0) k_x p500 k_A n_A hno) (cwV 1 hts gX5_orderOf_X5_findPerson rfl rfl rfl (by decide +kernel) ⟨Nat.le_of_ble_eq_true rfl, Nat.le_of_ble_eq_true rfl⟩) (z_preV hA hS hH (z_recv hA hH (zk0 k_x (by decide)) (zE_k6 k_x) (q := (RX5, TX5, 6)) rfl)) rfl rfl hl.1 rfl (lv_room (Nat.le_of_ble_eq_true rfl)) dX5_orderOf_2 ⟨Nat.le_of_ble_eq_true rfl, Nat.le_of_ble_eq_true rfl⟩) hS (fun E_k_3 ce_k_3 q9_k_3 u_k_3 H locs hw_k_3 hH hz_k_3 hS hce_k_3 hv_k_3 hcl_k_3 => ?_) (fun r_k_3 u_k_3 H locs hw_k_3 hH hz_k_3 hS => ?_)
    · obtain ⟨rfl, hu_k_3⟩ := hw_k_3
      rw [hu_k_3] at hH
      exact z_out htab hlocks hH hS hce_k_3 hv_k_3 hcl_k_3 (by
        have hc : (cd_P B its) = 1 := by first | (simp [cd_P, hvP]; done) | (simp_all [cd_P]; done)
        exact ⟨⟨hc, rfl⟩, rfl⟩) (by decide) (by decide)
    · exact hw_k_3.elim
set_option maxHeartbeats 4000000 in
set_option maxRecDepth 100000 in
theorem c5_toolsOut (l : Launch) (hl9 : l.stackTraces = false) (D : va_G) (cy : Nat → ClassId) (base : Nat) (w : zW) (x : Nat) (ad : Nat → Nat → Nat) (B : mB) (k9 : Int32) (hR : rAll w x ad B) (hinv : mInv B) (hinv2 : mInv2 B) : vx_Met l yX5_toolsOut wsX5_toolsOut ({ frames := 7, cells := 1, slots := 6, locals := 112 }) (zPc D cy base (zH D cy base) [.ref x, .int k9] w) (zQi base (zH D cy base) (fun (r0 : Int32) (u0 : zW) => (cd_K B k9) = 0 ∧ r0 = (an_toolsOut B k9) ∧ Rep u0 x B ∧ cFr w u0)) (zXC base (zH D cy base) (fun (E : String) (u0 : zW) => thr1 (cd_K B k9) E ∧ u0 = w)) 1 6 (fun q => base ≤ q) := by
  refine vx_ofW (cc := cX5_toolsOut) (maxL := 2) (ret := (some .int)) (by decide) rfl ?_
  intro p e s m args below meth c s₁ B9 hml htab hv
  obtain ⟨rfl, hA, hH⟩ := hv
  have hx := B9.exec
  have hb := B9.bytes
  have hr := B9.returns
  have hts := atoms_spec (ws := wsX5_toolsOut) B9.pre
  have hown : s.vm.findClass RX5 = some m.cls := findClass_of_methodNamed B9.named
  have hlocks := B9.notSynchronized
  have hi4 : ∀ w ∈ wsX40, w ∈ wsX5_toolsOut := by decide +kernel
  have hS : va_S (fun q : Nat => base ≤ q) s.heap s.heap [] := va_S.rf
  have hl := lv_entry ([.ref x, .int k9]) (n := 2) (Nat.le_of_ble_eq_true rfl)
  rw [lg_entry_eq]
  generalize (lg_sl ([.ref x, .int k9]) ++ List.replicate (2 - (lg_sl ([.ref x, .int k9])).length) Slot.unset).toArray = ls at hl ⊢
  have hl : lv_has ls 2 [(0, .ref x), (1, .int k9)] := hl
  have hR9 := hR
  obtain ⟨⟨⟨k_x, i503, i504, i505⟩, ⟨p500, p501, p502⟩, k_A, n_A, k_O, n_O, k_T, n_T⟩, ⟨qA, qO, qT⟩, hTool, hPk, ⟨h200, h201, h202, h203, h204, h205, h206, h208, h209, h212, h213⟩, hPo, ⟨h301, h302, h303, hAc⟩, ⟨hOq, hOf⟩, hOr, hInj⟩ := hR9
  rcases vLies_const (v := k9) (n := 3) (by decide) (m := 2) (by decide) with ⟨k, rfl, hk3, hvK, hkx⟩ | hvK
  · obtain ⟨k_t, i400, i401⟩ := hTool k hk3
    refine lv_aload_n hx hb dX5_toolsOut_0 rfl (lv_at hl 0 rfl) ?_
    refine lv_iload_n hx hb dX5_toolsOut_1 rfl (lv_at hl 1 rfl) ?_
    refine z_xcallr (vx_runV (As := [.int (nI k)]) (rest := []) ⟨hx, hb, hml, hown, hts⟩ (c5_findTools_t l hl9 D cy base w x k (ad 7 2) (ad 6 k) k_x p502 k_T n_T (qT k hk3) hk3) (cwV 1 hts gX5_toolsOut_X5_findTools rfl rfl rfl (by decide +kernel) ⟨Nat.le_of_ble_eq_true rfl, Nat.le_of_ble_eq_true rfl⟩) (z_preV hA hS hH (z_recv hA hH (zk0 k_x (by decide)) (zE_k6 k_x) (q := (RX5, TX5, 6)) rfl)) rfl rfl hl.1 rfl (lv_room (Nat.le_of_ble_eq_true rfl)) dX5_toolsOut_2 ⟨Nat.le_of_ble_eq_true rfl, Nat.le_of_ble_eq_true rfl⟩) hS (fun E_k_1 ce_k_1 q9_k_1 u_k_1 H locs hw_k_1 hH hz_k_1 hS hce_k_1 hv_k_1 hcl_k_1 => ?_) (fun r_k_1 u_k_1 H locs hw_k_1 hH hz_k_1 hS => ?_)
    · exact hw_k_1.elim
    · rcases hw_k_1 with ⟨rfl, hu_k_1⟩
      rw [hu_k_1] at hH
      refine z_get (C := RX4) (T := TX4) (N := 2) (ci := 4) (index := 104) (v := .int (zI w 401 (ad 6 k))) hx hb hts hi4 hown hA hH (zk0 k_t (by decide)) (zE_k5 k_t) rfl 1 (by decide) (hts (.fieldLink RX5 104 "ParoleCards$ToolKind" "countedOut" "I") (by decide +kernel)) (fun _ h9 => h9) rfl dX5_toolsOut_5 ?_
      refine vx_ret ?_
      exact z_iret hx hb hr hlocks hH hS (by
        have hc : (cd_K B (nI k)) = 0 := by first | (simp [cd_K, hvK, hkx]; done) | (simp_all [cd_K]; done)
        refine ⟨hc, ?_, ⟨ad, hR⟩, cFr_rf _⟩
        rw [i401]; rfl) (by decide) (by decide) dX5_toolsOut_8
  · have hno3 := vK_no (w := w) (A := ad 7 2) hvK
    refine lv_aload_n hx hb dX5_toolsOut_0 rfl (lv_at hl 0 rfl) ?_
    refine lv_iload_n hx hb dX5_toolsOut_1 rfl (lv_at hl 1 rfl) ?_
    refine z_xcallr (vx_runV (As := [.int k9]) (rest := []) ⟨hx, hb, hml, hown, hts⟩ (c5_findTools_f l hl9 D cy base w x k9 (ad 7 2) k_x p502 k_T n_T hno3) (cwV 1 hts gX5_toolsOut_X5_findTools rfl rfl rfl (by decide +kernel) ⟨Nat.le_of_ble_eq_true rfl, Nat.le_of_ble_eq_true rfl⟩) (z_preV hA hS hH (z_recv hA hH (zk0 k_x (by decide)) (zE_k6 k_x) (q := (RX5, TX5, 6)) rfl)) rfl rfl hl.1 rfl (lv_room (Nat.le_of_ble_eq_true rfl)) dX5_toolsOut_2 ⟨Nat.le_of_ble_eq_true rfl, Nat.le_of_ble_eq_true rfl⟩) hS (fun E_k_2 ce_k_2 q9_k_2 u_k_2 H locs hw_k_2 hH hz_k_2 hS hce_k_2 hv_k_2 hcl_k_2 => ?_) (fun r_k_2 u_k_2 H locs hw_k_2 hH hz_k_2 hS => ?_)
    · obtain ⟨rfl, hu_k_2⟩ := hw_k_2
      rw [hu_k_2] at hH
      exact z_out htab hlocks hH hS hce_k_2 hv_k_2 hcl_k_2 (by
        have hc : (cd_K B k9) = 1 := by first | (simp [cd_K, hvK]; done) | (simp_all [cd_K]; done)
        exact ⟨⟨hc, rfl⟩, rfl⟩) (by decide) (by decide)
    · exact hw_k_2.elim
set_option maxHeartbeats 4000000 in
set_option maxRecDepth 100000 in
theorem c5_left (l : Launch) (hl9 : l.stackTraces = false) (D : va_G) (cy : Nat → ClassId) (base : Nat) (w : zW) (x : Nat) (ad : Nat → Nat → Nat) (B : mB) (o : Int32) (hR : rAll w x ad B) (hinv : mInv B) (hinv2 : mInv2 B) : vx_Met l yX5_left wsX5_left ({ frames := 7, cells := 1, slots := 6, locals := 112 }) (zPc D cy base (zH D cy base) [.ref x, .int o] w) (zQi base (zH D cy base) (fun (r0 : Int32) (u0 : zW) => (cd_O B o) = 0 ∧ r0 = (an_of B 25 o) ∧ Rep u0 x B ∧ cFr w u0)) (zXC base (zH D cy base) (fun (E : String) (u0 : zW) => thr1 (cd_O B o) E ∧ u0 = w)) 1 6 (fun q => base ≤ q) := by
  refine vx_ofW (cc := cX5_left) (maxL := 2) (ret := (some .int)) (by decide) rfl ?_
  intro p e s m args below meth c s₁ B9 hml htab hv
  obtain ⟨rfl, hA, hH⟩ := hv
  have hx := B9.exec
  have hb := B9.bytes
  have hr := B9.returns
  have hts := atoms_spec (ws := wsX5_left) B9.pre
  have hown : s.vm.findClass RX5 = some m.cls := findClass_of_methodNamed B9.named
  have hlocks := B9.notSynchronized
  have hi1 : ∀ w ∈ wsX10, w ∈ wsX5_left := by decide +kernel
  have hS : va_S (fun q : Nat => base ≤ q) s.heap s.heap [] := va_S.rf
  have hl := lv_entry ([.ref x, .int o]) (n := 2) (Nat.le_of_ble_eq_true rfl)
  rw [lg_entry_eq]
  generalize (lg_sl ([.ref x, .int o]) ++ List.replicate (2 - (lg_sl ([.ref x, .int o])).length) Slot.unset).toArray = ls at hl ⊢
  have hl : lv_has ls 2 [(0, .ref x), (1, .int o)] := hl
  have hR9 := hR
  obtain ⟨⟨⟨k_x, i503, i504, i505⟩, ⟨p500, p501, p502⟩, k_A, n_A, k_O, n_O, k_T, n_T⟩, ⟨qA, qO, qT⟩, hTool, hPk, ⟨h200, h201, h202, h203, h204, h205, h206, h208, h209, h212, h213⟩, hPo, ⟨h301, h302, h303, hAc⟩, ⟨hOq, hOf⟩, hOr, hInj⟩ := hR9
  rcases vO_split hinv o with ⟨j, rfl, hj, hj8, hvO, hjx⟩ | hvO
  · have q_j : zQ w (ad 7 1) j = some (ad 5 j) := by rw [qO j hj8, if_pos hj]
    obtain ⟨k_o, i100, i101, p102, i103, i104, i105⟩ := hOr j hj
    obtain ⟨k_t, i400, i401⟩ := hTool (kx B j) (mInv_kx hinv hj).2
    refine lv_aload_n hx hb dX5_left_0 rfl (lv_at hl 0 rfl) ?_
    refine lv_iload_n hx hb dX5_left_1 rfl (lv_at hl 1 rfl) ?_
    refine z_xcallr (vx_runV (As := [.int (nI j)]) (rest := []) ⟨hx, hb, hml, hown, hts⟩ (c5_findOrder_t l hl9 D cy base w x j (ad 7 1) (ad 5 j) k_x p501 k_O n_O q_j hj8) (cwV 1 hts gX5_left_X5_findOrder rfl rfl rfl (by decide +kernel) ⟨Nat.le_of_ble_eq_true rfl, Nat.le_of_ble_eq_true rfl⟩) (z_preV hA hS hH (z_recv hA hH (zk0 k_x (by decide)) (zE_k6 k_x) (q := (RX5, TX5, 6)) rfl)) rfl rfl hl.1 rfl (lv_room (Nat.le_of_ble_eq_true rfl)) dX5_left_2 ⟨Nat.le_of_ble_eq_true rfl, Nat.le_of_ble_eq_true rfl⟩) hS (fun E_k_1 ce_k_1 q9_k_1 u_k_1 H locs hw_k_1 hH hz_k_1 hS hce_k_1 hv_k_1 hcl_k_1 => ?_) (fun r_k_1 u_k_1 H locs hw_k_1 hH hz_k_1 hS => ?_)
    · exact hw_k_1.elim
    · rcases hw_k_1 with ⟨rfl, hu_k_1⟩
      rw [hu_k_1] at hH
      refine z_get (C := RX1) (T := TX1) (N := 6) (ci := 1) (index := 163) (v := .int (zI w 104 (ad 5 j))) hx hb hts hi1 hown hA hH (zk0 k_o (by decide)) (zE_k2 k_o) rfl 4 (by decide) (hts (.fieldLink RX5 163 "ParoleCards$Order" "workLeft" "I") (by decide +kernel)) (fun _ h9 => h9) rfl dX5_left_5 ?_
      refine vx_ret ?_
      exact z_iret hx hb hr hlocks hH hS (by
        have hc : (cd_O B (nI j)) = 0 := by first | (simp [cd_O, hvO, hjx]; done) | (simp_all [cd_O]; done)
        refine ⟨hc, ?_, ⟨ad, hR⟩, cFr_rf _⟩
        rw [i104]; simp [an_of, hjx]) (by decide) (by decide) dX5_left_8
  · have hno2 := vO_no hinv hvO qO
    refine lv_aload_n hx hb dX5_left_0 rfl (lv_at hl 0 rfl) ?_
    refine lv_iload_n hx hb dX5_left_1 rfl (lv_at hl 1 rfl) ?_
    refine z_xcallr (vx_runV (As := [.int o]) (rest := []) ⟨hx, hb, hml, hown, hts⟩ (c5_findOrder_f l hl9 D cy base w x o (ad 7 1) k_x p501 k_O n_O hno2) (cwV 1 hts gX5_left_X5_findOrder rfl rfl rfl (by decide +kernel) ⟨Nat.le_of_ble_eq_true rfl, Nat.le_of_ble_eq_true rfl⟩) (z_preV hA hS hH (z_recv hA hH (zk0 k_x (by decide)) (zE_k6 k_x) (q := (RX5, TX5, 6)) rfl)) rfl rfl hl.1 rfl (lv_room (Nat.le_of_ble_eq_true rfl)) dX5_left_2 ⟨Nat.le_of_ble_eq_true rfl, Nat.le_of_ble_eq_true rfl⟩) hS (fun E_k_2 ce_k_2 q9_k_2 u_k_2 H locs hw_k_2 hH hz_k_2 hS hce_k_2 hv_k_2 hcl_k_2 => ?_) (fun r_k_2 u_k_2 H locs hw_k_2 hH hz_k_2 hS => ?_)
    · obtain ⟨rfl, hu_k_2⟩ := hw_k_2
      rw [hu_k_2] at hH
      exact z_out htab hlocks hH hS hce_k_2 hv_k_2 hcl_k_2 (by
        have hc : (cd_O B o) = 1 := by first | (simp [cd_O, hvO]; done) | (simp_all [cd_O]; done)
        exact ⟨⟨hc, rfl⟩, rfl⟩) (by decide) (by decide)
    · exact hw_k_2.elim
