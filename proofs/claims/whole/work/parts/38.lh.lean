/-! THE LAW'S CALLS OF THE CLASS -/
theorem as_aux (vm : Vm) (n : Nat) (k : ClassId) : vm.assignableAux (n + 1) k k = true := by
  unfold Vm.assignableAux
  simp
theorem as_self (vm : Vm) (k : ClassId) : vm.assignable k k = true := as_aux vm 255 k
theorem castable_self {args : Array Value} {s : State} {E : String} {k : ClassId} (h : s.vm.findClass E = some k) : (Cond.castable E E).before args s = true := by
  simp [Cond.before, Cond.holds, Cond.value, h, as_self]
/-- what a call of the class by the law leaves as it was -/
def gFr (w0 w : zW) : Prop := ∀ b, (zK w0 b = 7 ∨ zK w0 b = 8 ∨ zK w0 b = 9 ∨ zK w0 b = 14) → zK w b = zK w0 b ∧ zN w b = zN w0 b ∧ zR w b = zR w0 b ∧ (∀ g, zI w g b = zI w0 g b) ∧ (∀ g, zP w g b = zP w0 g b)
theorem gFr_J {w u : zW} (h : cFr w u) (o j : Nat) (v : Int64) : gFr w (zsJ u o j v) := by
  intro b hb
  obtain ⟨a1, a2, a3, a4, a5, a6⟩ := h b hb
  exact ⟨a1, a2, a3, a5, a6⟩
theorem gJ (u : zW) (o j : Nat) (v : Int64) : zJ (zsJ u o j v) o j = v := z2_same _ _ _ _
theorem gRep {u : zW} {x o j : Nat} {v : Int64} {B : mB} (h : Rep u x B) : Rep (zsJ u o j v) x B := h
