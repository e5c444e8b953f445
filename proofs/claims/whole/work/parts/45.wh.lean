/-- the empty world -/
def zW0 : zW := (fun _ => 0, fun _ _ => 0, fun _ _ => none, fun _ => 0, fun _ _ => 0, fun _ _ => none, fun _ _ => 0)
theorem mRep_old {w w' : zW} {y : Nat} {r : Nat → Nat} {B : mB} (h : mRep w y r B) (o : zOld w w') : mRep w' y r B := by
  obtain ⟨h1, h2, h3, h4⟩ := h
  obtain ⟨a1, a2, a3, a4, a5, a6, a7⟩ := o y (zk0 h1 (by decide))
  refine ⟨a1.trans h1, fun f hf => (a2 _).trans (h2 f hf), fun f hf => ?_, h4⟩
  obtain ⟨q1, q2, q3, q4⟩ := h3 f hf
  obtain ⟨b1, b2, b3, b4, b5, b6, b7⟩ := o (r f) (by rw [q2]; rcases mKd_89 f with h | h <;> omega)
  exact ⟨(a3 _).trans q1, b1.trans q2, b4.trans q3, b5.trans q4⟩
theorem zOld_X {u u2 : zW} {y : Nat} (hn : zK u y = 0) (h : zOldX y (zNew u y 7 0) u2) : zOld u u2 := by
  intro b hb
  obtain ⟨hne, b1, b2, b3, b4, b5, b6, b7⟩ := zNew_old (k := 7) (n := 0) hn hb
  obtain ⟨a1, a2, a3, a4, a5, a6, a7⟩ := h b (by rw [b1]; exact hb) hne
  exact ⟨a1.trans b1, fun g => (a2 g).trans (b2 g), fun g => (a3 g).trans (b3 g), a4.trans b4, a5.trans b5, a6.trans b6, a7.trans b7⟩
theorem Rep_old {w w' : zW} {x : Nat} {B : mB} (h : Rep w x B) (o : zOld w w') : Rep w' x B := by
  obtain ⟨ad, h⟩ := h; exact ⟨ad, ra_old h o⟩
set_option maxHeartbeats 4000000 in
set_option maxRecDepth 100000 in
theorem whole_start {p : Program} {e : Env} {s : State} {m : MethodId} {below : List Frame} {meth : Method} {c : Code} (l : Launch) (hflags : l.flags = flags0) {b L : Nat} {xs : Nat → Int32} (hL : L ≤ 2560) (C0 : lw_At p s m meth c b L xs) : W p l e room_1 s m #[Value.ref b] below meth c s.heap [] 0 0 (lw_Z below #[Value.ref b] s) (entryFrame m ([Value.ref b] : List Value).toArray 7) := by
  obtain ⟨hx, hb, hr, hml, hown, hts0, hX, hbl, hlocks, hgv⟩ := id C0
  have hb : c.code = cL_law := hb
  have hown : s.vm.findClass RL = some m.cls := hown
  have hts : ∀ w ∈ wsL_law, w.before #[Value.ref b] s = true := fun w h => hts0 w (wsL_law_in w h)
  have hl9 : l.stackTraces = false := by
    unfold Launch.stackTraces; rw [hflags]; decide +kernel
  obtain ⟨D, cy, hA⟩ := zA_start C0
  have hH : zH D cy s.heap.size zW0 s.heap := fun a h => absurd rfl h
  have hS : va_S (fun q : Nat => s.heap.size ≤ q) s.heap s.heap [] := va_S.rf
  have hl := lv_entry ([.ref b]) (n := 7) (Nat.le_of_ble_eq_true rfl)
  rw [lg_entry_eq]
  generalize (lg_sl ([.ref b]) ++ List.replicate (7 - (lg_sl ([.ref b])).length) Slot.unset).toArray = ls at hl ⊢
  have hl : lv_has ls 7 [(0, .ref b)] := hl
  refine z_new (C := RX5) (T := TX5) (N := 6) (ci := 5) (k := 6) (index := 8) hx hb hts inlX5 tyX5 tyX5_ok hown (hts (.classLink RL 8 RX5) (by decide +kernel)) (hts (.instantiable RX5 6) (by decide +kernel)) (hts (.initialized RX5) (by decide +kernel)) hA hH hS rfl zdf_5 (fun q => znew_5 q) (Nat.le_of_ble_eq_true rfl) (Nat.le_of_ble_eq_true rfl) dL_law_0 (fun x H hn1 hH hS => ?_)
  refine lv_dup hx hb dL_law_3 rfl ?_
  have nx := zNew_new (w := zW0) (q := x) (k := 6) (n := 0)
  refine z_callv (va_runI (As := []) (rest := [.ref x]) ⟨hx, hb, hml, hown, hts⟩ (c5_init l D cy s.heap.size (zNew zW0 x 6 0) x nx.1 ⟨nx.2.1 503, nx.2.1 504, nx.2.1 505⟩) (cwI 0 hts gL_law_X5_init rfl rfl rfl (hts (.initialized RX5) (by decide +kernel)) (hts (.methodLink RL 81 yX5_init) (by decide +kernel)) (hts (.instanceMethod yX5_init) (by decide +kernel)) rfl (by decide +kernel) ⟨Nat.le_of_ble_eq_true rfl, Nat.le_of_ble_eq_true rfl⟩) (z_preS hA hS hH) rfl rfl hl.1 rfl (lv_room (Nat.le_of_ble_eq_true rfl)) dL_law_4 ⟨Nat.le_of_ble_eq_true rfl, Nat.le_of_ble_eq_true rfl⟩) hS (fun u H locs hw hH hz hS => ?_)
  obtain ⟨hRep, -⟩ := hw
  refine lv_astore_n (lv' := [(1, .ref x), (0, .ref b)]) hx hb dL_law_7 rfl hl (by decide) rfl (fun ls hl => ?_)
  refine z_new (C := RX6) (T := TX6) (N := 28) (ci := 6) (k := 7) (index := 82) hx hb hts inlX6 tyX6 tyX6_ok hown (hts (.classLink RL 82 RX6) (by decide +kernel)) (hts (.instantiable RX6 28) (by decide +kernel)) (hts (.initialized RX6) (by decide +kernel)) hA hH hS rfl zdf_6 (fun q => znew_6 q) (Nat.le_of_ble_eq_true rfl) (Nat.le_of_ble_eq_true rfl) dL_law_8 (fun y H hn2 hH hS => ?_)
  refine lv_dup hx hb dL_law_11 rfl ?_
  have ny := zNew_new (w := u) (q := y) (k := 7) (n := 0)
  refine z_callv (va_runI (As := []) (rest := [.ref y]) ⟨hx, hb, hml, hown, hts⟩ (c6_init l D cy s.heap.size (zNew u y 7 0) y ny.1 ny.2.1) (cwI 0 hts gL_law_X6_init rfl rfl rfl (hts (.initialized RX6) (by decide +kernel)) (hts (.methodLink RL 84 yX6_init) (by decide +kernel)) (hts (.instanceMethod yX6_init) (by decide +kernel)) rfl (by decide +kernel) ⟨Nat.le_of_ble_eq_true rfl, Nat.le_of_ble_eq_true rfl⟩) (z_preS hA hS hH) rfl rfl hl.1 rfl (lv_room (Nat.le_of_ble_eq_true rfl)) dL_law_12 ⟨Nat.le_of_ble_eq_true rfl, Nat.le_of_ble_eq_true rfl⟩) hS (fun u2 H locs hw hH hz hS => ?_)
  obtain ⟨⟨r, hM⟩, hOX⟩ := hw
  have hRep := Rep_old hRep (zOld_X hn2 hOX)
  refine lv_astore_n (lv' := [(2, .ref y), (1, .ref x), (0, .ref b)]) hx hb dL_law_15 rfl hl (by decide) rfl (fun ls hl => ?_)
  refine lv_iconst (v := 1) hx hb dL_law_16 (by decide) ?_
  refine z_newa (atype := .long) (ty := .long) (k := 14) (t0 := 6) (N' := 1) (a0 := (1, .inr (.inl (fun _ => 0)))) hx hb (hts (.arrayClass .long) (by decide +kernel)) rfl hA hH hS rfl rfl rfl (fun q => znew_a14 q 1) (by decide) (by decide) (Nat.le_of_ble_eq_true rfl) (Nat.le_of_ble_eq_true rfl) (Nat.le_of_ble_eq_true rfl) dL_law_17 (fun o9 H hn3 hH hS => ?_)
  have no := zNew_new (w := u2) (q := o9) (k := 14) (n := 1)
  have old := zOld_N (k := 14) (n := 1) (zOld_rf u2) hn3
  have hI : LI (zNew u2 o9 14 1) x y o9 r mB0 := ⟨Rep_old hRep old, mRep_old hM old, J_0, no.1, no.2.2.2.1⟩
  refine lv_astore_n (lv' := [(3, .ref o9), (2, .ref y), (1, .ref x), (0, .ref b)]) hx hb dL_law_19 rfl hl (by decide) rfl (fun ls hl => ?_)
  refine lv_iconst (v := 0) hx hb dL_law_20 (by decide) ?_
  refine lv_istore (lv' := [(4, .int 0), (3, .ref o9), (2, .ref y), (1, .ref x), (0, .ref b)]) hx hb dL_law_21 hl (by decide) rfl (fun ls hl => ?_)
  refine W.widen (k := 100 + 8 * 0) (n := 5000 + 100 * 0) (Nat.le_of_ble_eq_true rfl) (Nat.le_of_ble_eq_true rfl) ?_
  exact law_loop l hl9 hL C0 hA 513 0 rfl _ _ _ _ _ hI hH hS (lv_sub hl [4, 3, 2, 1, 0] rfl)
