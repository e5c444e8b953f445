/-! REP ALONG WRITES -/
theorem sOut_z2 {B : mB} {f a : Nat} {v : Int32} (h1 : f ≠ 11) (h2 : f ≠ 24) (d : Int32) (n : Nat) : sOut (z2 B f a v) d n = sOut B d n := by
  have e1 : z2 B f a v 11 = B 11 := z2_ne1 B a v (Ne.symm h1)
  have e2 : z2 B f a v 24 = B 24 := z2_ne1 B a v (Ne.symm h2)
  induction n with
  | zero => rfl
  | succ n ih =>
    have e3 : ox (z2 B f a v) n = ox B n := by unfold ox; rw [e1]
    show sOut (z2 B f a v) d n + (if z2 B f a v 11 n = -1 then 0 else if z2 B f a v 24 (ox (z2 B f a v) n) = d then 1 else 0) = sOut B d n + (if B 11 n = -1 then 0 else if B 24 (ox B n) = d then 1 else 0)
    rw [ih, e1, e2, e3]
theorem sOn_z2 {B : mB} {f a : Nat} {v : Int32} (h1 : f ≠ 11) (o : Int32) (n : Nat) : sOn (z2 B f a v) o n = sOn B o n := by
  have e1 : z2 B f a v 11 = B 11 := z2_ne1 B a v (Ne.symm h1)
  induction n with
  | zero => rfl
  | succ n ih => simp only [sOn, ih, e1]
theorem sLo_z2 {B : mB} {f a : Nat} {v : Int32} (h1 : f ≠ 17) (h2 : f ≠ 20) (b n : Nat) : sLo (z2 B f a v) b n = sLo B b n := by
  have e1 : z2 B f a v 17 = B 17 := z2_ne1 B a v (Ne.symm h1)
  have e2 : z2 B f a v 20 = B 20 := z2_ne1 B a v (Ne.symm h2)
  induction n with
  | zero => rfl
  | succ n ih => simp only [sLo, ih, e1, e2]
theorem sLoss_z2 {B : mB} {f a : Nat} {v : Int32} (h1 : f ≠ 17) (h2 : f ≠ 20) (h3 : f ≠ 10) (i : Nat) : sLoss (z2 B f a v) i = sLoss B i := by
  have e1 : z2 B f a v 10 = B 10 := z2_ne1 B a v (Ne.symm h3)
  unfold sLoss oc; rw [sLo_z2 h1 h2, e1]
theorem zrep_upR {n : Nat} {F : Nat → Nat → Int32} {G : Nat → Int32} {ad : Nat → Nat} (h : ∀ i, i < n → ∀ j, j < 4 → F (ad i) j = G (4 * i + j)) (inj : ∀ i j, i < n → j < n → ad i = ad j → i = j) {i0 j0 : Nat} (hi : i0 < n) (hj : j0 < 4) (v : Int32) : ∀ i, i < n → ∀ j, j < 4 → z2 F (ad i0) j0 v (ad i) j = va_up G (4 * i0 + j0) v (4 * i + j) := by
  intro i hin j hj4
  by_cases e : i = i0
  · subst e
    by_cases e2 : j = j0
    · subst e2; simp [z2, va_up]
    · have e3 : ¬ 4 * i + j = 4 * i + j0 := by omega
      simp [z2, va_up, e2, e3, h i hin j hj4]
  · have e2 : ad i ≠ ad i0 := fun z => e (inj i i0 hin hi z)
    have e3 : ¬ 4 * i + j = 4 * i0 + j0 := by omega
    simp [z2, va_up, e2, e3, h i hin j hj4]
theorem z2_id {B : mB} {f a : Nat} {v : Int32} (h : B f a = v) : z2 B f a v = B := by
  funext g b
  by_cases e : g = f
  · subst e
    by_cases e2 : b = a
    · subst e2; rw [z2_same]; exact h.symm
    · exact z2_ne2 _ _ _ _ e2
  · rw [z2_ne1 _ _ _ e]
theorem cFr_I {w : zW} {a k : Nat} (h : zK w a = k) (hk : k ≠ 7 ∧ k ≠ 8 ∧ k ≠ 9 ∧ k ≠ 14) (g : Nat) (v : Int32) : cFr w (zsI w g a v) := by
  intro b hb
  have e : b ≠ a := by intro e; subst e; rw [h] at hb; omega
  exact ⟨rfl, rfl, rfl, rfl, fun _ => z2_ne2 _ _ _ _ e, fun _ => rfl⟩
theorem cFr_P {w : zW} {a k : Nat} (h : zK w a = k) (hk : k ≠ 7 ∧ k ≠ 8 ∧ k ≠ 9 ∧ k ≠ 14) (g : Nat) (v : Option Nat) : cFr w (zsP w g a v) := by
  intro b hb
  have e : b ≠ a := by intro e; subst e; rw [h] at hb; omega
  exact ⟨rfl, rfl, rfl, rfl, fun _ => rfl, fun _ => z2_ne2 _ _ _ _ e⟩
theorem cFr_R {w : zW} {a k : Nat} (h : zK w a = k) (hk : k ≠ 7 ∧ k ≠ 8 ∧ k ≠ 9 ∧ k ≠ 14) (j : Nat) (v : Int32) : cFr w (zsR w a j v) := by
  intro b hb
  have e : b ≠ a := by intro e; subst e; rw [h] at hb; omega
  exact ⟨rfl, rfl, z2_ne1 _ _ _ e, rfl, fun _ => rfl, fun _ => rfl⟩
theorem cFr_Q {w : zW} (a j : Nat) (v : Option Nat) : cFr w (zsQ w a j v) := fun _ _ => ⟨rfl, rfl, rfl, rfl, fun _ => rfl, fun _ => rfl⟩
/-- w' holds what w held, where w held anything -/
def zOld (w w' : zW) : Prop := ∀ b, zK w b ≠ 0 → zK w' b = zK w b ∧ (∀ g, zI w' g b = zI w g b) ∧ (∀ g, zP w' g b = zP w g b) ∧ zN w' b = zN w b ∧ zR w' b = zR w b ∧ zQ w' b = zQ w b ∧ zJ w' b = zJ w b
theorem zOld_rf (w : zW) : zOld w w := fun _ _ => ⟨rfl, fun _ => rfl, fun _ => rfl, rfl, rfl, rfl, rfl⟩
theorem zOld_free {w w' : zW} {q : Nat} (h : zOld w w') (hq : zK w' q = 0) : zK w q = 0 := by
  by_cases e : zK w q = 0
  · exact e
  · rw [(h q e).1] at hq; exact hq
theorem zOld_N {w w' : zW} {q k n : Nat} (h : zOld w w') (hq : zK w' q = 0) : zOld w (zNew w' q k n) := by
  intro b hb
  obtain ⟨a1, a2, a3, a4, a5, a6, a7⟩ := h b hb
  obtain ⟨_, b1, b2, b3, b4, b5, b6, b7⟩ := zNew_old (k := k) (n := n) hq (show zK w' b ≠ 0 by rw [a1]; exact hb)
  exact ⟨b1.trans a1, fun g => (b2 g).trans (a2 g), fun g => (b3 g).trans (a3 g), b4.trans a4, b5.trans a5, b6.trans a6, b7.trans a7⟩
theorem zOld_I {w w' : zW} {q : Nat} (h : zOld w w') (hq : zK w q = 0) (g : Nat) (v : Int32) : zOld w (zsI w' g q v) := by
  intro b hb
  obtain ⟨a1, a2, a3, a4, a5, a6, a7⟩ := h b hb
  have e : b ≠ q := by intro e; subst e; exact hb hq
  exact ⟨a1, fun f => (z2_ne2 _ _ _ _ e).trans (a2 f), a3, a4, a5, a6, a7⟩
theorem zOld_P {w w' : zW} {q : Nat} (h : zOld w w') (hq : zK w q = 0) (g : Nat) (v : Option Nat) : zOld w (zsP w' g q v) := by
  intro b hb
  obtain ⟨a1, a2, a3, a4, a5, a6, a7⟩ := h b hb
  have e : b ≠ q := by intro e; subst e; exact hb hq
  exact ⟨a1, a2, fun f => (z2_ne2 _ _ _ _ e).trans (a3 f), a4, a5, a6, a7⟩
theorem zOld_cFr {w w' : zW} (h : zOld w w') : cFr w w' := by
  intro b hb
  obtain ⟨a1, a2, a3, a4, a5, a6, a7⟩ := h b (by omega)
  exact ⟨a1, a4, a5, a7, a2, a3⟩
theorem ra_202 {w : zW} {x : Nat} {ad : Nat → Nat → Nat} {B : mB} {i : Nat} (h : rAll w x ad B) (hi : i < nP B) (v : Int32) : rAll (zsI w 202 (ad 0 i) v) x ad (z2 B 5 i v) := by
  obtain ⟨hO, hRw, hT, hPk, ⟨h200, h201, h202, h203, h204, h205, h206, h208, h209, h212, h213⟩, hPo, ⟨h301, h302, h303, hAc⟩, ⟨hOq, hOf⟩, hOr, hInj⟩ := h
  exact ⟨hO, hRw, fun k hk => ⟨(hT k hk).1, (hT k hk).2.1, (hT k hk).2.2.trans (sOut_z2 (by decide) (by decide) _ _).symm⟩, hPk, ⟨h200, h201, zrep_up h202 (hInj.1 0 (by decide)) hi v, h203, h204, h205, h206, h208, fun k hk => (h209 k hk).trans (sLoss_z2 (by decide) (by decide) (by decide) _).symm, h212, h213⟩, hPo, ⟨h301, h302, h303, hAc⟩, ⟨hOq, hOf⟩, fun j hj => ⟨(hOr j hj).1, (hOr j hj).2.1, (hOr j hj).2.2.1, (hOr j hj).2.2.2.1, (hOr j hj).2.2.2.2.1, (hOr j hj).2.2.2.2.2.1, (hOr j hj).2.2.2.2.2.2.trans (sOn_z2 (by decide) _ _).symm⟩, hInj⟩
theorem ra_203 {w : zW} {x : Nat} {ad : Nat → Nat → Nat} {B : mB} {i : Nat} (h : rAll w x ad B) (hi : i < nP B) (v : Int32) : rAll (zsI w 203 (ad 0 i) v) x ad (z2 B 6 i v) := by
  obtain ⟨hO, hRw, hT, hPk, ⟨h200, h201, h202, h203, h204, h205, h206, h208, h209, h212, h213⟩, hPo, ⟨h301, h302, h303, hAc⟩, ⟨hOq, hOf⟩, hOr, hInj⟩ := h
  exact ⟨hO, hRw, fun k hk => ⟨(hT k hk).1, (hT k hk).2.1, (hT k hk).2.2.trans (sOut_z2 (by decide) (by decide) _ _).symm⟩, hPk, ⟨h200, h201, h202, zrep_up h203 (hInj.1 0 (by decide)) hi v, h204, h205, h206, h208, fun k hk => (h209 k hk).trans (sLoss_z2 (by decide) (by decide) (by decide) _).symm, h212, h213⟩, hPo, ⟨h301, h302, h303, hAc⟩, ⟨hOq, hOf⟩, fun j hj => ⟨(hOr j hj).1, (hOr j hj).2.1, (hOr j hj).2.2.1, (hOr j hj).2.2.2.1, (hOr j hj).2.2.2.2.1, (hOr j hj).2.2.2.2.2.1, (hOr j hj).2.2.2.2.2.2.trans (sOn_z2 (by decide) _ _).symm⟩, hInj⟩
theorem ra_204 {w : zW} {x : Nat} {ad : Nat → Nat → Nat} {B : mB} {i : Nat} (h : rAll w x ad B) (hi : i < nP B) (v : Int32) : rAll (zsI w 204 (ad 0 i) v) x ad (z2 B 7 i v) := by
  obtain ⟨hO, hRw, hT, hPk, ⟨h200, h201, h202, h203, h204, h205, h206, h208, h209, h212, h213⟩, hPo, ⟨h301, h302, h303, hAc⟩, ⟨hOq, hOf⟩, hOr, hInj⟩ := h
  exact ⟨hO, hRw, fun k hk => ⟨(hT k hk).1, (hT k hk).2.1, (hT k hk).2.2.trans (sOut_z2 (by decide) (by decide) _ _).symm⟩, hPk, ⟨h200, h201, h202, h203, zrep_up h204 (hInj.1 0 (by decide)) hi v, h205, h206, h208, fun k hk => (h209 k hk).trans (sLoss_z2 (by decide) (by decide) (by decide) _).symm, h212, h213⟩, hPo, ⟨h301, h302, h303, hAc⟩, ⟨hOq, hOf⟩, fun j hj => ⟨(hOr j hj).1, (hOr j hj).2.1, (hOr j hj).2.2.1, (hOr j hj).2.2.2.1, (hOr j hj).2.2.2.2.1, (hOr j hj).2.2.2.2.2.1, (hOr j hj).2.2.2.2.2.2.trans (sOn_z2 (by decide) _ _).symm⟩, hInj⟩
theorem ra_206 {w : zW} {x : Nat} {ad : Nat → Nat → Nat} {B : mB} {i : Nat} (h : rAll w x ad B) (hi : i < nP B) (v : Int32) : rAll (zsI w 206 (ad 0 i) v) x ad (z2 B 8 i v) := by
  obtain ⟨hO, hRw, hT, hPk, ⟨h200, h201, h202, h203, h204, h205, h206, h208, h209, h212, h213⟩, hPo, ⟨h301, h302, h303, hAc⟩, ⟨hOq, hOf⟩, hOr, hInj⟩ := h
  exact ⟨hO, hRw, fun k hk => ⟨(hT k hk).1, (hT k hk).2.1, (hT k hk).2.2.trans (sOut_z2 (by decide) (by decide) _ _).symm⟩, hPk, ⟨h200, h201, h202, h203, h204, h205, zrep_up h206 (hInj.1 0 (by decide)) hi v, h208, fun k hk => (h209 k hk).trans (sLoss_z2 (by decide) (by decide) (by decide) _).symm, h212, h213⟩, hPo, ⟨h301, h302, h303, hAc⟩, ⟨hOq, hOf⟩, fun j hj => ⟨(hOr j hj).1, (hOr j hj).2.1, (hOr j hj).2.2.1, (hOr j hj).2.2.2.1, (hOr j hj).2.2.2.2.1, (hOr j hj).2.2.2.2.2.1, (hOr j hj).2.2.2.2.2.2.trans (sOn_z2 (by decide) _ _).symm⟩, hInj⟩
theorem ra_212 {w : zW} {x : Nat} {ad : Nat → Nat → Nat} {B : mB} {i : Nat} (h : rAll w x ad B) (hi : i < nP B) (v : Int32) : rAll (zsI w 212 (ad 0 i) v) x ad (z2 B 2 i v) := by
  obtain ⟨hO, hRw, hT, hPk, ⟨h200, h201, h202, h203, h204, h205, h206, h208, h209, h212, h213⟩, hPo, ⟨h301, h302, h303, hAc⟩, ⟨hOq, hOf⟩, hOr, hInj⟩ := h
  exact ⟨hO, hRw, fun k hk => ⟨(hT k hk).1, (hT k hk).2.1, (hT k hk).2.2.trans (sOut_z2 (by decide) (by decide) _ _).symm⟩, hPk, ⟨h200, h201, h202, h203, h204, h205, h206, h208, fun k hk => (h209 k hk).trans (sLoss_z2 (by decide) (by decide) (by decide) _).symm, zrep_up h212 (hInj.1 0 (by decide)) hi v, h213⟩, hPo, ⟨h301, h302, h303, hAc⟩, ⟨hOq, hOf⟩, fun j hj => ⟨(hOr j hj).1, (hOr j hj).2.1, (hOr j hj).2.2.1, (hOr j hj).2.2.2.1, (hOr j hj).2.2.2.2.1, (hOr j hj).2.2.2.2.2.1, (hOr j hj).2.2.2.2.2.2.trans (sOn_z2 (by decide) _ _).symm⟩, hInj⟩
theorem ra_213 {w : zW} {x : Nat} {ad : Nat → Nat → Nat} {B : mB} {i : Nat} (h : rAll w x ad B) (hi : i < nP B) (v : Int32) : rAll (zsI w 213 (ad 0 i) v) x ad (z2 B 12 i v) := by
  obtain ⟨hO, hRw, hT, hPk, ⟨h200, h201, h202, h203, h204, h205, h206, h208, h209, h212, h213⟩, hPo, ⟨h301, h302, h303, hAc⟩, ⟨hOq, hOf⟩, hOr, hInj⟩ := h
  exact ⟨hO, hRw, fun k hk => ⟨(hT k hk).1, (hT k hk).2.1, (hT k hk).2.2.trans (sOut_z2 (by decide) (by decide) _ _).symm⟩, hPk, ⟨h200, h201, h202, h203, h204, h205, h206, h208, fun k hk => (h209 k hk).trans (sLoss_z2 (by decide) (by decide) (by decide) _).symm, h212, zrep_up h213 (hInj.1 0 (by decide)) hi v⟩, hPo, ⟨h301, h302, h303, hAc⟩, ⟨hOq, hOf⟩, fun j hj => ⟨(hOr j hj).1, (hOr j hj).2.1, (hOr j hj).2.2.1, (hOr j hj).2.2.2.1, (hOr j hj).2.2.2.2.1, (hOr j hj).2.2.2.2.2.1, (hOr j hj).2.2.2.2.2.2.trans (sOn_z2 (by decide) _ _).symm⟩, hInj⟩
theorem ra_301 {w : zW} {x : Nat} {ad : Nat → Nat → Nat} {B : mB} {i : Nat} (h : rAll w x ad B) (hi : i < nP B) (v : Int32) : rAll (zsI w 301 (ad 1 i) v) x ad (z2 B 15 i v) := by
  obtain ⟨hO, hRw, hT, hPk, ⟨h200, h201, h202, h203, h204, h205, h206, h208, h209, h212, h213⟩, hPo, ⟨h301, h302, h303, hAc⟩, ⟨hOq, hOf⟩, hOr, hInj⟩ := h
  exact ⟨hO, hRw, fun k hk => ⟨(hT k hk).1, (hT k hk).2.1, (hT k hk).2.2.trans (sOut_z2 (by decide) (by decide) _ _).symm⟩, hPk, ⟨h200, h201, h202, h203, h204, h205, h206, h208, fun k hk => (h209 k hk).trans (sLoss_z2 (by decide) (by decide) (by decide) _).symm, h212, h213⟩, hPo, ⟨zrep_up h301 (hInj.1 1 (by decide)) hi v, h302, h303, hAc⟩, ⟨hOq, hOf⟩, fun j hj => ⟨(hOr j hj).1, (hOr j hj).2.1, (hOr j hj).2.2.1, (hOr j hj).2.2.2.1, (hOr j hj).2.2.2.2.1, (hOr j hj).2.2.2.2.2.1, (hOr j hj).2.2.2.2.2.2.trans (sOn_z2 (by decide) _ _).symm⟩, hInj⟩
theorem ra_302 {w : zW} {x : Nat} {ad : Nat → Nat → Nat} {B : mB} {i : Nat} (h : rAll w x ad B) (hi : i < nP B) (v : Int32) : rAll (zsI w 302 (ad 1 i) v) x ad (z2 B 16 i v) := by
  obtain ⟨hO, hRw, hT, hPk, ⟨h200, h201, h202, h203, h204, h205, h206, h208, h209, h212, h213⟩, hPo, ⟨h301, h302, h303, hAc⟩, ⟨hOq, hOf⟩, hOr, hInj⟩ := h
  exact ⟨hO, hRw, fun k hk => ⟨(hT k hk).1, (hT k hk).2.1, (hT k hk).2.2.trans (sOut_z2 (by decide) (by decide) _ _).symm⟩, hPk, ⟨h200, h201, h202, h203, h204, h205, h206, h208, fun k hk => (h209 k hk).trans (sLoss_z2 (by decide) (by decide) (by decide) _).symm, h212, h213⟩, hPo, ⟨h301, zrep_up h302 (hInj.1 1 (by decide)) hi v, h303, hAc⟩, ⟨hOq, hOf⟩, fun j hj => ⟨(hOr j hj).1, (hOr j hj).2.1, (hOr j hj).2.2.1, (hOr j hj).2.2.2.1, (hOr j hj).2.2.2.2.1, (hOr j hj).2.2.2.2.2.1, (hOr j hj).2.2.2.2.2.2.trans (sOn_z2 (by decide) _ _).symm⟩, hInj⟩
theorem ra_303 {w : zW} {x : Nat} {ad : Nat → Nat → Nat} {B : mB} {i : Nat} (h : rAll w x ad B) (hi : i < nP B) (v : Int32) : rAll (zsI w 303 (ad 1 i) v) x ad (z2 B 13 i v) := by
  obtain ⟨hO, hRw, hT, hPk, ⟨h200, h201, h202, h203, h204, h205, h206, h208, h209, h212, h213⟩, hPo, ⟨h301, h302, h303, hAc⟩, ⟨hOq, hOf⟩, hOr, hInj⟩ := h
  exact ⟨hO, hRw, fun k hk => ⟨(hT k hk).1, (hT k hk).2.1, (hT k hk).2.2.trans (sOut_z2 (by decide) (by decide) _ _).symm⟩, hPk, ⟨h200, h201, h202, h203, h204, h205, h206, h208, fun k hk => (h209 k hk).trans (sLoss_z2 (by decide) (by decide) (by decide) _).symm, h212, h213⟩, hPo, ⟨h301, h302, zrep_up h303 (hInj.1 1 (by decide)) hi v, hAc⟩, ⟨hOq, hOf⟩, fun j hj => ⟨(hOr j hj).1, (hOr j hj).2.1, (hOr j hj).2.2.1, (hOr j hj).2.2.2.1, (hOr j hj).2.2.2.2.1, (hOr j hj).2.2.2.2.2.1, (hOr j hj).2.2.2.2.2.2.trans (sOn_z2 (by decide) _ _).symm⟩, hInj⟩
theorem ra_R {w : zW} {x : Nat} {ad : Nat → Nat → Nat} {B : mB} {i : Nat} (h : rAll w x ad B) (hi : i < nP B) {j0 : Nat} (hj : j0 < 4) (v : Int32) : rAll (zsR w (ad 2 i) j0 v) x ad (z2 B 14 (4 * i + j0) v) := by
  obtain ⟨hO, hRw, hT, hPk, ⟨h200, h201, h202, h203, h204, h205, h206, h208, h209, h212, h213⟩, hPo, ⟨h301, h302, h303, hAc⟩, ⟨hOq, hOf⟩, hOr, hInj⟩ := h
  exact ⟨hO, hRw, fun k hk => ⟨(hT k hk).1, (hT k hk).2.1, (hT k hk).2.2.trans (sOut_z2 (by decide) (by decide) _ _).symm⟩, hPk, ⟨h200, h201, h202, h203, h204, h205, h206, h208, fun k hk => (h209 k hk).trans (sLoss_z2 (by decide) (by decide) (by decide) _).symm, h212, h213⟩, hPo, ⟨h301, h302, h303, zrep_upR hAc (hInj.1 2 (by decide)) hi hj v⟩, ⟨hOq, hOf⟩, fun j hj => ⟨(hOr j hj).1, (hOr j hj).2.1, (hOr j hj).2.2.1, (hOr j hj).2.2.2.1, (hOr j hj).2.2.2.2.1, (hOr j hj).2.2.2.2.2.1, (hOr j hj).2.2.2.2.2.2.trans (sOn_z2 (by decide) _ _).symm⟩, hInj⟩
theorem ra_205 {w : zW} {x : Nat} {ad : Nat → Nat → Nat} {B : mB} {i : Nat} (h : rAll w x ad B) (hi : i < nP B) (v : Int32) (hv : v = B 9 i + 1 - B 10 i) : rAll (zsI w 205 (ad 0 i) v) x ad (z2 B 9 i (B 9 i + 1)) := by
  obtain ⟨hO, hRw, hT, hPk, ⟨h200, h201, h202, h203, h204, h205, h206, h208, h209, h212, h213⟩, hPo, ⟨h301, h302, h303, hAc⟩, ⟨hOq, hOf⟩, hOr, hInj⟩ := h
  subst hv
  have q205 : ∀ k, k < nP B → va_up (zI w 205) (ad 0 i) (B 9 i + 1 - B 10 i) (ad 0 k) = va_up (B 9) i (B 9 i + 1) k - B 10 k := by
    intro k hk
    by_cases e : k = i
    · subst e; simp [va_up]
    · have e2 : ad 0 k ≠ ad 0 i := fun z => e (hInj.1 0 (by decide) k i hk hi z)
      simp [va_up, e, e2, h205 k hk]
  exact ⟨hO, hRw, fun k hk => ⟨(hT k hk).1, (hT k hk).2.1, (hT k hk).2.2.trans (sOut_z2 (by decide) (by decide) _ _).symm⟩, hPk, ⟨h200, h201, h202, h203, h204, q205, h206, h208, fun k hk => (h209 k hk).trans (sLoss_z2 (by decide) (by decide) (by decide) _).symm, h212, h213⟩, hPo, ⟨h301, h302, h303, hAc⟩, ⟨hOq, hOf⟩, fun j hj => ⟨(hOr j hj).1, (hOr j hj).2.1, (hOr j hj).2.2.1, (hOr j hj).2.2.2.1, (hOr j hj).2.2.2.2.1, (hOr j hj).2.2.2.2.2.1, (hOr j hj).2.2.2.2.2.2.trans (sOn_z2 (by decide) _ _).symm⟩, hInj⟩
theorem ra_104 {w : zW} {x : Nat} {ad : Nat → Nat → Nat} {B : mB} {i : Nat} (h : rAll w x ad B) (hi : i < nO B) (v : Int32) : rAll (zsI w 104 (ad 5 i) v) x ad (z2 B 25 i v) := by
  obtain ⟨hO, hRw, hT, hPk, ⟨h200, h201, h202, h203, h204, h205, h206, h208, h209, h212, h213⟩, hPo, ⟨h301, h302, h303, hAc⟩, ⟨hOq, hOf⟩, hOr, hInj⟩ := h
  exact ⟨hO, hRw, fun k hk => ⟨(hT k hk).1, (hT k hk).2.1, (hT k hk).2.2.trans (sOut_z2 (by decide) (by decide) _ _).symm⟩, hPk, ⟨h200, h201, h202, h203, h204, h205, h206, h208, fun k hk => (h209 k hk).trans (sLoss_z2 (by decide) (by decide) (by decide) _).symm, h212, h213⟩, hPo, ⟨h301, h302, h303, hAc⟩, ⟨hOq, hOf⟩, fun j hj => ⟨(hOr j hj).1, (hOr j hj).2.1, (hOr j hj).2.2.1, (hOr j hj).2.2.2.1, (hOr j hj).2.2.2.2.1, zrep_up (fun j hj => (hOr j hj).2.2.2.2.2.1) hInj.2.2.1 hi v j hj, (hOr j hj).2.2.2.2.2.2.trans (sOn_z2 (by decide) _ _).symm⟩, hInj⟩
theorem ra_400 {w : zW} {x : Nat} {ad : Nat → Nat → Nat} {B : mB} {i : Nat} (h : rAll w x ad B) (hi : i < 3) (v : Int32) : rAll (zsI w 400 (ad 6 i) v) x ad (z2 B 21 i v) := by
  obtain ⟨hO, hRw, hT, hPk, ⟨h200, h201, h202, h203, h204, h205, h206, h208, h209, h212, h213⟩, hPo, ⟨h301, h302, h303, hAc⟩, ⟨hOq, hOf⟩, hOr, hInj⟩ := h
  exact ⟨hO, hRw, fun k hk => ⟨(hT k hk).1, zrep_up (fun k hk => (hT k hk).2.1) hInj.2.2.2 hi v k hk, (hT k hk).2.2.trans (sOut_z2 (by decide) (by decide) _ _).symm⟩, hPk, ⟨h200, h201, h202, h203, h204, h205, h206, h208, fun k hk => (h209 k hk).trans (sLoss_z2 (by decide) (by decide) (by decide) _).symm, h212, h213⟩, hPo, ⟨h301, h302, h303, hAc⟩, ⟨hOq, hOf⟩, fun j hj => ⟨(hOr j hj).1, (hOr j hj).2.1, (hOr j hj).2.2.1, (hOr j hj).2.2.2.1, (hOr j hj).2.2.2.2.1, (hOr j hj).2.2.2.2.2.1, (hOr j hj).2.2.2.2.2.2.trans (sOn_z2 (by decide) _ _).symm⟩, hInj⟩
theorem ra_505 {w : zW} {x : Nat} {ad : Nat → Nat → Nat} {B : mB} {i : Nat} (h : rAll w x ad B)  : rAll (zsI w 505 x (B 0 0 + 1)) x ad (z2 B 0 0 (B 0 0 + 1)) := by
  obtain ⟨hO, hRw, hT, hPk, ⟨h200, h201, h202, h203, h204, h205, h206, h208, h209, h212, h213⟩, hPo, ⟨h301, h302, h303, hAc⟩, ⟨hOq, hOf⟩, hOr, hInj⟩ := h
  exact ⟨⟨⟨hO.1.1, hO.1.2.1, hO.1.2.2.1, (z2_same w.2.1 505 x _).trans (z2_same B 0 0 _).symm⟩, hO.2⟩, hRw, fun k hk => ⟨(hT k hk).1, (hT k hk).2.1, (hT k hk).2.2.trans (sOut_z2 (by decide) (by decide) _ _).symm⟩, hPk, ⟨h200, h201, h202, h203, h204, h205, h206, h208, fun k hk => (h209 k hk).trans (sLoss_z2 (by decide) (by decide) (by decide) _).symm, h212, h213⟩, hPo, ⟨h301, h302, h303, hAc⟩, ⟨hOq, hOf⟩, fun j hj => ⟨(hOr j hj).1, (hOr j hj).2.1, (hOr j hj).2.2.1, (hOr j hj).2.2.2.1, (hOr j hj).2.2.2.2.1, (hOr j hj).2.2.2.2.2.1, (hOr j hj).2.2.2.2.2.2.trans (sOn_z2 (by decide) _ _).symm⟩, hInj⟩
theorem ra_old {w w' : zW} {x : Nat} {ad : Nat → Nat → Nat} {B : mB} (h : rAll w x ad B) (o : zOld w w') : rAll w' x ad B := by
  obtain ⟨⟨⟨k_x, i503, i504, i505⟩, ⟨p500, p501, p502⟩, k_A, n_A, k_O, n_O, k_T, n_T⟩, ⟨qA, qO, qT⟩, hT, hPk, ⟨h200, h201, h202, h203, h204, h205, h206, h208, h209, h212, h213⟩, hPo, ⟨h301, h302, h303, hAc⟩, ⟨hOq, hOf⟩, hOr, hInj⟩ := h
  have ox := o x (zk0 k_x (by decide)); have oA := o _ (zk0 k_A (by decide)); have oO := o _ (zk0 k_O (by decide)); have oT := o _ (zk0 k_T (by decide))
  have o0 : ∀ i, i < nP B → _ := fun i hi => o (ad 0 i) (zk0 (hPk i hi).1 (by decide))
  have o1 : ∀ i, i < nP B → _ := fun i hi => o (ad 1 i) (zk0 (hPk i hi).2.2.2.2.2.1 (by decide))
  have o2 : ∀ i, i < nP B → _ := fun i hi => o (ad 2 i) (zk0 (hPk i hi).2.2.2.2.2.2.2.1 (by decide))
  have o3 : ∀ i, i < nP B → _ := fun i hi => o (ad 3 i) (zk0 (hPk i hi).2.2.2.1 (by decide))
  have o4 : ∀ i, i < nP B → ∀ k, k < oc B i → _ := fun i hi k hk => o (ad 4 (50 * i + k)) (zk0 (hOf i hi k hk).1 (by decide))
  have o5 : ∀ j, j < nO B → _ := fun j hj => o (ad 5 j) (zk0 (hOr j hj).1 (by decide))
  have o6 : ∀ k, k < 3 → _ := fun k hk => o (ad 6 k) (zk0 (hT k hk).1 (by decide))
  have I0 : ∀ {g : Nat} {G : Nat → Int32}, (∀ i, i < nP B → zI w g (ad 0 i) = G i) → ∀ i, i < nP B → zI w' g (ad 0 i) = G i := fun hh i hi => ((o0 i hi).2.1 _).trans (hh i hi)
  have I1 : ∀ {g : Nat} {G : Nat → Int32}, (∀ i, i < nP B → zI w g (ad 1 i) = G i) → ∀ i, i < nP B → zI w' g (ad 1 i) = G i := fun hh i hi => ((o1 i hi).2.1 _).trans (hh i hi)
  refine ⟨⟨⟨ox.1.trans k_x, (ox.2.1 _).trans i503, (ox.2.1 _).trans i504, (ox.2.1 _).trans i505⟩, ⟨(ox.2.2.1 _).trans p500, (ox.2.2.1 _).trans p501, (ox.2.2.1 _).trans p502⟩, oA.1.trans k_A, oA.2.2.2.1.trans n_A, oO.1.trans k_O, oO.2.2.2.1.trans n_O, oT.1.trans k_T, oT.2.2.2.1.trans n_T⟩,
    ⟨fun i hi => (congrFun oA.2.2.2.2.2.1 i).trans (qA i hi), fun i hi => (congrFun oO.2.2.2.2.2.1 i).trans (qO i hi), fun i hi => (congrFun oT.2.2.2.2.2.1 i).trans (qT i hi)⟩,
    fun k hk => ⟨(o6 k hk).1.trans (hT k hk).1, ((o6 k hk).2.1 _).trans (hT k hk).2.1, ((o6 k hk).2.1 _).trans (hT k hk).2.2⟩,
    fun i hi => ?_, ⟨I0 h200, I0 h201, I0 h202, I0 h203, I0 h204, I0 h205, I0 h206, I0 h208, I0 h209, I0 h212, I0 h213⟩,
    fun i hi => ((o0 i hi).2.2.1 _).trans (hPo i hi), ⟨I1 h301, I1 h302, I1 h303, fun i hi j hj => (congrFun (o2 i hi).2.2.2.2.1 j).trans (hAc i hi j hj)⟩,
    ⟨fun i hi k hk => (congrFun (o3 i hi).2.2.2.2.2.1 k).trans (hOq i hi k hk), fun i hi k hk => ?_⟩, fun j hj => ?_, hInj⟩
  · obtain ⟨a1, a2, a3, a4, a5, a6, a7, a8, a9⟩ := hPk i hi
    exact ⟨(o0 i hi).1.trans a1, ((o0 i hi).2.2.1 _).trans a2, ((o0 i hi).2.2.1 _).trans a3, (o3 i hi).1.trans a4, (o3 i hi).2.2.2.1.trans a5, (o1 i hi).1.trans a6, ((o1 i hi).2.2.1 _).trans a7, (o2 i hi).1.trans a8, (o2 i hi).2.2.2.1.trans a9⟩
  · obtain ⟨a1, a2, a3, a4, a5⟩ := hOf i hi k hk
    have q := o4 i hi k hk
    exact ⟨q.1.trans a1, (q.2.1 _).trans a2, (q.2.1 _).trans a3, (q.2.1 _).trans a4, (q.2.1 _).trans a5⟩
  · obtain ⟨a1, a2, a3, a4, a5, a6, a7⟩ := hOr j hj
    have q := o5 j hj
    exact ⟨q.1.trans a1, (q.2.1 _).trans a2, (q.2.1 _).trans a3, (q.2.2.1 _).trans a4, (q.2.1 _).trans a5, (q.2.1 _).trans a6, (q.2.1 _).trans a7⟩
theorem ra_ad {w : zW} {x : Nat} {ad ad' : Nat → Nat → Nat} {B : mB} (h : rAll w x ad B) (hinv : mInv B) (e0 : ∀ t, t < 4 → ∀ i, i < nP B → ad' t i = ad t i) (e4 : ∀ i k, i < nP B → k < oc B i → ad' 4 (50 * i + k) = ad 4 (50 * i + k)) (e5 : ∀ j, j < nO B → ad' 5 j = ad 5 j) (e6 : ∀ k, k < 3 → ad' 6 k = ad 6 k) (e7 : ∀ k, k < 3 → ad' 7 k = ad 7 k) : rAll w x ad' B := by
  obtain ⟨hO, ⟨qA, qO, qT⟩, hT, hPk, ⟨h200, h201, h202, h203, h204, h205, h206, h208, h209, h212, h213⟩, hPo, ⟨h301, h302, h303, hAc⟩, ⟨hOq, hOf⟩, hOr, hInj⟩ := h
  have a0 : ∀ i, i < nP B → ad' 0 i = ad 0 i := e0 0 (by decide)
  have a1 : ∀ i, i < nP B → ad' 1 i = ad 1 i := e0 1 (by decide)
  have a2 : ∀ i, i < nP B → ad' 2 i = ad 2 i := e0 2 (by decide)
  have a3 : ∀ i, i < nP B → ad' 3 i = ad 3 i := e0 3 (by decide)
  have b0 := e7 0 (by decide); have b1 := e7 1 (by decide); have b2 := e7 2 (by decide)
  have I0 : ∀ {g : Nat} {G : Nat → Int32}, (∀ i, i < nP B → zI w g (ad 0 i) = G i) → ∀ i, i < nP B → zI w g (ad' 0 i) = G i := fun hh i hi => by rw [a0 i hi]; exact hh i hi
  have I1 : ∀ {g : Nat} {G : Nat → Int32}, (∀ i, i < nP B → zI w g (ad 1 i) = G i) → ∀ i, i < nP B → zI w g (ad' 1 i) = G i := fun hh i hi => by rw [a1 i hi]; exact hh i hi
  refine ⟨?_, ⟨fun i hi => ?_, fun i hi => ?_, fun k hk => ?_⟩, fun k hk => ?_, fun i hi => ?_, ⟨I0 h200, I0 h201, I0 h202, I0 h203, I0 h204, I0 h205, I0 h206, I0 h208, I0 h209, I0 h212, I0 h213⟩, fun i hi => ?_, ⟨I1 h301, I1 h302, I1 h303, fun i hi j hj => by rw [a2 i hi]; exact hAc i hi j hj⟩, ⟨fun i hi k hk => ?_, fun i hi k hk => ?_⟩, fun j hj => ?_, ⟨fun t ht i j hi hj e => ?_, fun i j k n hi hj hk hn e => ?_, fun i j hi hj e => ?_, fun i j hi hj e => ?_⟩⟩
  · unfold rObj; rw [b0, b1, b2]; exact hO
  · rw [b0, qA i hi]
    by_cases c : i < nP B
    · rw [if_pos c, if_pos c, a0 i c]
    · rw [if_neg c, if_neg c]
  · rw [b1, qO i hi]
    by_cases c : i < nO B
    · rw [if_pos c, if_pos c, e5 i c]
    · rw [if_neg c, if_neg c]
  · rw [b2, e6 k hk]; exact qT k hk
  · rw [e6 k hk]; exact hT k hk
  · rw [a0 i hi, a1 i hi, a2 i hi, a3 i hi]; exact hPk i hi
  · rw [a0 i hi, hPo i hi]
    by_cases c : B 11 i = -1
    · rw [if_pos c, if_pos c]
    · rw [if_neg c, if_neg c, e5 _ ((hinv.2.2.1 i hi).2.2.2.2.resolve_left c).2]
  · rw [a3 i hi, hOq i hi k hk]
    by_cases c : k < oc B i
    · rw [if_pos c, if_pos c, e4 i k hi c]
    · rw [if_neg c, if_neg c]
  · rw [e4 i k hi hk]; exact hOf i hi k hk
  · rw [e5 j hj, e6 _ (mInv_kx hinv hj).2]; exact hOr j hj
  · rw [e0 t ht i hi, e0 t ht j hj] at e; exact hInj.1 t ht i j hi hj e
  · rw [e4 i k hi hk, e4 j n hj hn] at e; exact hInj.2.1 i j k n hi hj hk hn e
  · rw [e5 i hi, e5 j hj] at e; exact hInj.2.2.1 i j hi hj e
  · rw [e6 i hi, e6 j hj] at e; exact hInj.2.2.2 i j hi hj e
