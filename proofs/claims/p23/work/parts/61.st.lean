/-! THE LAW'S START -/
theorem zArr_i {args : Array Value} {s : State} (h : (Cond.arrayClass .int).before args s = true) : ∃ cA, ArrOfT s cA .int ∧ va_RA s cA .int := by
  obtain ⟨cA, kA, comp, h1, h2, h3⟩ := Cond.arrayClass_spec h
  exact ⟨cA, fun n z => ⟨fun k h => (by cases h), kA, h2, comp, h3⟩, h1⟩
theorem zArr_o {args : Array Value} {s : State} {C : String} (h : (Cond.arrayOver (.object C)).before args s = true) : ∃ cA, ArrOfT s cA (.object C) ∧ va_RA s cA (.object C) := by
  obtain ⟨comp, c, k, h1, h2, h3, h4, h5⟩ := Cond.arrayOver_spec h
  exact ⟨c, fun n z => ⟨fun k h => (by cases h), k, h3, comp, h4⟩, k, comp, h3, h4, h1, h5⟩
theorem zTx_of {args : Array Value} {s : State} {own tx : String} {k : Nat} {cur : ClassId} (hcur : s.vm.findClass own = some cur) (h : (Cond.stringRef own k tx).before args s = true) : ∃ a : Nat, vk_R own k tx a s := by
  obtain ⟨_, _, _, a, _, _, _, _, _, e⟩ := Cond.stringRef_spec hcur h
  exact ⟨a, vk_R.of h e⟩
theorem zFace_in : ∀ w ∈ zFace, w ∈ lw_tbl := by decide +kernel
theorem zTx_in : ∀ q ∈ zTexts, Cond.stringRef q.1 q.2.1 q.2.2 ∈ lw_tbl := by decide +kernel
theorem zTx_own : ∀ q ∈ zTexts, q.1 = RX5 ∨ q.1 = RX2 := by decide +kernel
theorem zA_start {p : Program} {s : State} {m : MethodId} {meth : Method} {c : Code} {b L : Nat} {xs : Nat → Int32} (C0 : lw_At p s m meth c b L xs) : ∃ (D : va_G) (cy : Nat → ClassId), zA D cy s.heap.size s := by
  obtain ⟨hx, hb, hr, hml, hown, hts, hX, hbl, hlocks, hgv⟩ := id C0
  have hg := flat_of_before _ hgv
  obtain ⟨c0, i0, k0⟩ := u_known (C := RX0) (T := TX0) (N := 4) (n := 4) hts inX0 (hts (.instantiable RX0 4) (by decide +kernel))
  obtain ⟨c1, i1, k1⟩ := u_known (C := RX1) (T := TX1) (N := 6) (n := 6) hts inX1 (hts (.instantiable RX1 6) (by decide +kernel))
  obtain ⟨c2, i2, k2⟩ := u_known (C := RX2) (T := TX2) (N := 14) (n := 14) hts inX2 (hts (.instantiable RX2 14) (by decide +kernel))
  obtain ⟨c3, i3, k3⟩ := u_known (C := RX3) (T := TX3) (N := 4) (n := 4) hts inX3 (hts (.instantiable RX3 4) (by decide +kernel))
  obtain ⟨c4, i4, k4⟩ := u_known (C := RX4) (T := TX4) (N := 2) (n := 2) hts inX4 (hts (.instantiable RX4 2) (by decide +kernel))
  obtain ⟨c5, i5, k5⟩ := u_known (C := RX5) (T := TX5) (N := 6) (n := 6) hts inX5 (hts (.instantiable RX5 6) (by decide +kernel))
  have o0 := hts (.arrayOver (.object "ParoleCards$Offence")) (by decide +kernel)
  have o1 := hts (.arrayOver (.object "ParoleCards$Order")) (by decide +kernel)
  have o2 := hts (.arrayOver (.object "ParoleCards$Person")) (by decide +kernel)
  have o3 := hts (.arrayOver (.object "ParoleCards$ToolKind")) (by decide +kernel)
  obtain ⟨a0, h0⟩ := zArr_i (hts (.arrayClass .int) (by decide +kernel))
  obtain ⟨a2, h2⟩ := zArr_o o0
  obtain ⟨a3, h3⟩ := zArr_o o1
  obtain ⟨a4, h4⟩ := zArr_o o2
  obtain ⟨a5, h5⟩ := zArr_o o3
  have nA : ∀ a : Nat, a < s.heap.size → ¬ s.heap.size ≤ a := fun a h => Nat.not_le.mpr h
  have ini := hts (.initialized "java/lang/Throwable") (by decide +kernel)
  refine ⟨(fun k => match k with | 0 => c0 | 1 => c1 | 2 => c2 | 3 => c3 | 4 => c4 | _ => c5, fun k => match k with | 0 => i0 | 1 => i1 | 2 => i2 | 3 => i3 | 4 => i4 | _ => i5), (fun k => match k with | 0 => a0 | 2 => a2 | 3 => a3 | 4 => a4 | _ => a5), Nat.le_refl _, ⟨fun k q hq => ?_, fun k q hq => ?_⟩, ⟨?_, ?_⟩, fun q hq => ?_, fun w hw => ?_, ⟨va_AO.of o0, va_AO.of o1, va_AO.of o2, va_AO.of o3⟩, ⟨?_, ?_, ?_, ?_, ?_⟩⟩
  · match k, hq with
    | 0, hq => cases hq; exact k0
    | 1, hq => cases hq; exact k1
    | 2, hq => cases hq; exact k2
    | 3, hq => cases hq; exact k3
    | 4, hq => cases hq; exact k4
    | 5, hq => cases hq; exact k5
    | k + 6, hq => simp at hq
  · match k, hq with
    | 0, hq => cases hq; exact h0
    | 1, hq => cases hq; exact h0
    | 2, hq => cases hq; exact h2
    | 3, hq => cases hq; exact h3
    | 4, hq => cases hq; exact h4
    | 5, hq => cases hq; exact h5
    | k + 6, hq => simp [zTy] at hq
  · exact vx_Zqof (hts (.laysStatic Bundle.tN "UNASSIGNED_STACK" Bundle.steD) (by decide +kernel)) ini (hg (.isRef (.static Bundle.tN "UNASSIGNED_STACK" Bundle.steD)) (by decide +kernel)) nA
  · exact vx_Zqof (hts (.laysStatic Bundle.tN "SUPPRESSED_SENTINEL" Bundle.listD) (by decide +kernel)) ini (hg (.isRef (.static Bundle.tN "SUPPRESSED_SENTINEL" Bundle.listD)) (by decide +kernel)) nA
  · have hw := hts _ (zTx_in q hq)
    rcases zTx_own q hq with e | e
    · exact zTx_of (cur := c5) (by rw [e]; exact k5.2.1) hw
    · exact zTx_of (cur := c2) (by rw [e]; exact k2.2.1) hw
  · have h1 := List.all_eq_true.mp zFace_ok w hw
    rw [Bool.and_eq_true] at h1
    exact va_tabs h1.1 rfl (hts w (zFace_in w hw))
  · exact va_Nc.of (hg (.not (.castable zIse zIob)) (by decide +kernel))
  · exact va_Nc.of (hg (.not (.castable zIse zIae)) (by decide +kernel))
  · exact va_Nc.of (hg (.not (.castable zIae zIob)) (by decide +kernel))
  · exact va_Nw.of rfl (hts (.methodLinkNest RX2 23 yX3_init RX5) (by decide +kernel))
  · exact va_Nw.of rfl (hts (.methodLinkNest RX5 27 yX4_init RX5) (by decide +kernel))
