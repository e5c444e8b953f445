/-! THE REFERENCE'S STATE: B f j is place j of its field f (a number's is place 0). -/
def mArr (f : Nat) : Prop := 2 ≤ f ∧ f ≤ 26 ∧ f ≠ 22
def mNum (f : Nat) : Prop := f = 0 ∨ f = 1 ∨ f = 22 ∨ f = 27
def mLen (f : Nat) : Nat := if f = 14 then 40 else if 17 ≤ f ∧ f ≤ 20 then 500 else if f = 21 then 3 else if 23 ≤ f then 8 else 10
def mKd (f : Nat) : Nat := if f = 2 ∨ f = 19 ∨ f = 20 then 9 else 8
def mRep (w : zW) (y : Nat) (r : Nat → Nat) (B : Nat → Nat → Int32) : Prop := zK w y = 7 ∧ (∀ f, mNum f → zI w (600 + f) y = B f 0) ∧ (∀ f, mArr f → zP w (600 + f) y = some (r f) ∧ zK w (r f) = mKd f ∧ zN w (r f) = mLen f ∧ zR w (r f) = B f) ∧ (∀ f g, mArr f → mArr g → r f = r g → f = g)
/-- what the reference's calls leave as it was -/
def mFr (w0 w : zW) : Prop := (∀ b, zK w b = zK w0 b) ∧ (∀ g b, zP w g b = zP w0 g b) ∧ (∀ b, zN w b = zN w0 b) ∧ (∀ b, zQ w b = zQ w0 b) ∧ (∀ b, zJ w b = zJ w0 b) ∧ (∀ g b, g < 600 → zI w g b = zI w0 g b) ∧ (∀ b, zK w0 b ≠ 8 → zK w0 b ≠ 9 → zR w b = zR w0 b)
def mH (D : va_G) (cy : Nat → ClassId) (base : Nat) (w0 : zW) (y : Nat) (r : Nat → Nat) (B : Nat → Nat → Int32) (H : Heap) : Prop := ∃ w : zW, zH D cy base w H ∧ mRep w y r B ∧ mFr w0 w
theorem mFr_rf (w : zW) : mFr w w := ⟨fun _ => rfl, fun _ _ => rfl, fun _ => rfl, fun _ => rfl, fun _ => rfl, fun _ _ _ => rfl, fun _ _ _ => rfl⟩
theorem mFr_I {w0 w : zW} (h : mFr w0 w) {g : Nat} (hg : 600 ≤ g) (a : Nat) (v : Int32) : mFr w0 (zsI w g a v) := by
  obtain ⟨h1, h2, h3, h4, h5, h6, h7⟩ := h
  refine ⟨h1, h2, h3, h4, h5, fun g' b hg' => ?_, h7⟩
  rw [← h6 g' b hg']
  exact congrFun (z2_ne1 (zI w) a v (by omega : g' ≠ g)) b
theorem mFr_R {w0 w : zW} (h : mFr w0 w) {a : Nat} (ha : zK w a = 8 ∨ zK w a = 9) (j : Nat) (v : Int32) : mFr w0 (zsR w a j v) := by
  obtain ⟨h1, h2, h3, h4, h5, h6, h7⟩ := h
  refine ⟨h1, h2, h3, h4, h5, h6, fun b hb8 hb9 => ?_⟩
  rw [← h7 b hb8 hb9]
  refine z2_ne1 (zR w) j v (fun e => ?_)
  rw [e, ← h1 a] at hb8 hb9
  rcases ha with ha | ha
  · exact hb8 ha
  · exact hb9 ha
theorem mKd_89 (f : Nat) : mKd f = 8 ∨ mKd f = 9 := by unfold mKd; split <;> simp
theorem mRep_num {w : zW} {y : Nat} {r : Nat → Nat} {B : Nat → Nat → Int32} (h : mRep w y r B) {f : Nat} (hf : mNum f) (v : Int32) : mRep (zsI w (600 + f) y v) y r (z2 B f 0 v) := by
  obtain ⟨h1, h2, h3, h4⟩ := h
  refine ⟨h1, fun g hg => ?_, fun g hg => ?_, h4⟩
  · show z2 (zI w) (600 + f) y v (600 + g) y = _
    by_cases e : g = f
    · subst e; rw [z2_same, z2_same]
    · rw [z2_ne1 _ _ _ (by omega : 600 + g ≠ 600 + f), z2_ne1 _ _ _ e]; exact h2 g hg
  · have e : g ≠ f := by unfold mArr at hg; unfold mNum at hf; omega
    rw [z2_ne1 _ _ _ e]
    exact h3 g hg
theorem mRep_arr {w : zW} {y : Nat} {r : Nat → Nat} {B : Nat → Nat → Int32} (h : mRep w y r B) {f : Nat} (hf : mArr f) (j : Nat) (v : Int32) : mRep (zsR w (r f) j v) y r (z2 B f j v) := by
  obtain ⟨h1, h2, h3, h4⟩ := h
  refine ⟨h1, fun g hg => ?_, fun g hg => ?_, h4⟩
  · have e : g ≠ f := by unfold mArr at hf; unfold mNum at hg; omega
    rw [z2_ne1 _ _ _ e]
    exact h2 g hg
  · obtain ⟨q1, q2, q3, q4⟩ := h3 g hg
    refine ⟨q1, q2, q3, ?_⟩
    show z2 (zR w) (r f) j v (r g) = _
    by_cases e : g = f
    · subst e; unfold z2; rw [if_pos rfl, if_pos rfl, q4]
    · rw [z2_ne1 _ _ _ (fun z => e (h4 g f hg hf z)), z2_ne1 _ _ _ e]; exact q4
section MROWS
variable {p : Program} {l : Launch} {e : Env} {R : Room} {s : State} {m : MethodId} {args : Array Value} {below : List Frame} {meth : Method} {c : Code} {H : Heap} {locs : List Loc} {cells slots : Nat} {Q : State → Prop} {cc : ByteArray} {pc : Nat} {ls : Array Slot} {rest : List Value} {D : va_G} {cy : Nat → ClassId} {base : Nat} {w0 : zW} {H0 : Heap} {y : Nat} {r : Nat → Nat} {B : Nat → Nat → Int32}
theorem m_recv (hA : zA D cy base s) (hH : mH D cy base w0 y r B H) : ∃ cell : Cell, H[y]? = some cell ∧ cell.vm.isStatics = false ∧ s.vm.findClass RX6 = some cell.cls := by
  obtain ⟨w, hH, hM, -⟩ := hH
  exact z_recv hA hH (by rw [hM.1]; decide) (zE_k7 hM.1) (q := (RX6, TX6, 28)) rfl
theorem m_num {f : Nat} (hf : mNum f) (hx : p.tables.exec = Jvm.exec) (hb : c.code = cc) {index : Nat} {Ts : List Cond} (hts : ∀ w ∈ Ts, w.before args s = true) (hin : ∀ w ∈ wsX60, w ∈ Ts) (hown : s.vm.findClass RX6 = some m.cls) (hA : zA D cy base s) (hH : mH D cy base w0 y r B H) (hlink : (Cond.fieldLink RX6 index RX6 (TX6 f).2.1 (TX6 f).2.2.1).before args s = true) {v : Int32} (hv : B f 0 = v) (hdg : decode cc pc = .ok (.getfield index, 3))
    (kk : W p l e R s m args below meth c H locs cells slots Q (F0 m (pc + 3) ls (.int v :: rest))) : W p l e R s m args below meth c H locs cells slots Q (F0 m pc ls (.ref y :: rest)) := by
  obtain ⟨w, hH, hM, -⟩ := hH
  have e := (hM.2.1 f hf).trans hv
  rw [← e] at kk
  rcases hf with rfl | rfl | rfl | rfl
  · exact z_get hx hb hts hin hown hA hH (by rw [hM.1]; decide) (zE_k7 hM.1) (N := 28) rfl 0 (by decide) hlink (fun _ h => h) rfl hdg kk
  · exact z_get hx hb hts hin hown hA hH (by rw [hM.1]; decide) (zE_k7 hM.1) (N := 28) rfl 1 (by decide) hlink (fun _ h => h) rfl hdg kk
  · exact z_get hx hb hts hin hown hA hH (by rw [hM.1]; decide) (zE_k7 hM.1) (N := 28) rfl 22 (by decide) hlink (fun _ h => h) rfl hdg kk
  · exact z_get hx hb hts hin hown hA hH (by rw [hM.1]; decide) (zE_k7 hM.1) (N := 28) rfl 27 (by decide) hlink (fun _ h => h) rfl hdg kk
theorem m_fields {i : Nat → Int32} {q : Nat → Option Nat} {f : Nat} (hf : mArr f) : (zF6 i q)[f]? = some (va_rf (q (600 + f))) := by
  obtain ⟨h1, h2, h3⟩ := hf
  rcases (show f = 2 ∨ f = 3 ∨ f = 4 ∨ f = 5 ∨ f = 6 ∨ f = 7 ∨ f = 8 ∨ f = 9 ∨ f = 10 ∨ f = 11 ∨ f = 12 ∨ f = 13 ∨ f = 14 ∨ f = 15 ∨ f = 16 ∨ f = 17 ∨ f = 18 ∨ f = 19 ∨ f = 20 ∨ f = 21 ∨ f = 23 ∨ f = 24 ∨ f = 25 ∨ f = 26 by omega) with rfl | rfl | rfl | rfl | rfl | rfl | rfl | rfl | rfl | rfl | rfl | rfl | rfl | rfl | rfl | rfl | rfl | rfl | rfl | rfl | rfl | rfl | rfl | rfl <;> rfl
theorem m_arr {f : Nat} (hf : mArr f) (hx : p.tables.exec = Jvm.exec) (hb : c.code = cc) {index : Nat} {Ts : List Cond} (hts : ∀ w ∈ Ts, w.before args s = true) (hin : ∀ w ∈ wsX60, w ∈ Ts) (hown : s.vm.findClass RX6 = some m.cls) (hA : zA D cy base s) (hH : mH D cy base w0 y r B H) (hlink : (Cond.fieldLink RX6 index RX6 (TX6 f).2.1 (TX6 f).2.2.1).before args s = true) (hsame : (TX6 f).1 = RX6) (hdg : decode cc pc = .ok (.getfield index, 3))
    (kk : W p l e R s m args below meth c H locs cells slots Q (F0 m (pc + 3) ls (.ref (r f) :: rest))) : W p l e R s m args below meth c H locs cells slots Q (F0 m pc ls (.ref y :: rest)) := by
  obtain ⟨w, hH, hM, -⟩ := hH
  have e := (hM.2.2.1 f hf).1
  have h27 : f < 28 := by unfold mArr at hf; omega
  exact z_get hx hb hts hin hown hA hH (by rw [hM.1]; decide) (zE_k7 hM.1) (N := 28) rfl f h27 hlink (fun x h => by rw [hsame] at h; exact h) ((m_fields hf).trans (congrArg (fun z => some (va_rf z)) e)) hdg kk
theorem m_at {w : zW} (hM : mRep w y r B) {f : Nat} (hf : mArr f) : (mKd f = 8 → zE cy w (r f) = .inl (cy 0, mLen f, .inl (B f))) ∧ (mKd f = 9 → zE cy w (r f) = .inl (cy 1, mLen f, .inl (B f))) := by
  obtain ⟨q1, q2, q3, q4⟩ := hM.2.2.1 f hf
  refine ⟨fun h => ?_, fun h => ?_⟩
  · rw [zE_k8 (q2.trans h), q3, q4]
  · rw [zE_k9 (q2.trans h), q3, q4]
theorem mLen_lt (f : Nat) : mLen f < 2 ^ 31 := by unfold mLen; repeat' split
                                                  all_goals decide
theorem m_K0 {w : zW} (hM : mRep w y r B) {f : Nat} (hf : mArr f) : zK w (r f) ≠ 0 := by
  rw [(hM.2.2.1 f hf).2.1]
  rcases mKd_89 f with h | h <;> rw [h] <;> decide
theorem m_iald {f : Nat} (hf : mArr f) (hk : mKd f = 8) (hx : p.tables.exec = Jvm.exec) (hb : c.code = cc) (hA : zA D cy base s) (hH : mH D cy base w0 y r B H) {i v : Int32} (j : Nat) (hi : i = nI j) (hj : j < mLen f) (hv : B f j = v) (hdg : decode cc pc = .ok (.iaload, 1))
    (kk : W p l e R s m args below meth c H locs cells slots Q (F0 m (pc + 1) ls (.int v :: rest))) : W p l e R s m args below meth c H locs cells slots Q (F0 m pc ls (.int i :: .ref (r f) :: rest)) := by
  subst hv
  obtain ⟨w, hH, hM, -⟩ := hH
  exact z_iald hx hb hA hH (m_K0 hM hf) ((m_at hM hf).1 hk) j hi hj (mLen_lt f) rfl hdg kk
theorem m_zald {f : Nat} (hf : mArr f) (hk : mKd f = 9) (hx : p.tables.exec = Jvm.exec) (hb : c.code = cc) (hA : zA D cy base s) (hH : mH D cy base w0 y r B H) {i v : Int32} (j : Nat) (hi : i = nI j) (hj : j < mLen f) (hv : B f j = v) (hdg : decode cc pc = .ok (.baload, 1))
    (kk : W p l e R s m args below meth c H locs cells slots Q (F0 m (pc + 1) ls (.int v :: rest))) : W p l e R s m args below meth c H locs cells slots Q (F0 m pc ls (.int i :: .ref (r f) :: rest)) := by
  subst hv
  obtain ⟨w, hH, hM, -⟩ := hH
  exact z_zald hx hb hA hH (m_K0 hM hf) ((m_at hM hf).2 hk) j hi hj (mLen_lt f) hdg kk
theorem m_iast {f : Nat} (hf : mArr f) (hk : mKd f = 8) (hx : p.tables.exec = Jvm.exec) (hb : c.code = cc) (hA : zA D cy base s) (hH : mH D cy base w0 y r B H) (hS : va_S (fun q : Nat => base ≤ q) H0 H locs) {i x : Int32} (j : Nat) (hi : i = nI j) (hj : j < mLen f) (hdg : decode cc pc = .ok (.iastore, 1))
    (kk : ∀ (H1 : Heap) (locs1 : List Loc), mH D cy base w0 y r (z2 B f j x) H1 → va_S (fun q : Nat => base ≤ q) H0 H1 locs1 → W p l e R s m args below meth c H1 locs1 cells slots Q (F0 m (pc + 1) ls rest)) : W p l e R s m args below meth c H locs cells slots Q (F0 m pc ls (.int x :: .int i :: .ref (r f) :: rest)) := by
  obtain ⟨w, hH, hM, hF⟩ := hH
  have hk0 := (hM.2.2.1 f hf).2.1
  have h9 := (hM.2.2.1 f hf).2.2
  refine z_iast hx hb hA hH hS (m_K0 hM hf) ((m_at hM hf).1 hk) j hi hj (mLen_lt f) (w' := zsR w (r f) j x) (by rw [zst_8 (hk0.trans hk), h9.1, h9.2]) (zsR_oth w (r f) j x) (fun _ => rfl) hdg (fun H1 locs1 hH1 hS1 => kk H1 locs1 ⟨_, hH1, mRep_arr hM hf j x, mFr_R hF (by rw [hk0]; exact mKd_89 f) j x⟩ hS1)
theorem m_zast {f : Nat} (hf : mArr f) (hk : mKd f = 9) (hx : p.tables.exec = Jvm.exec) (hb : c.code = cc) (hA : zA D cy base s) (hH : mH D cy base w0 y r B H) (hS : va_S (fun q : Nat => base ≤ q) H0 H locs) {i x : Int32} (hx1 : vp_nar .boolean x = x) (j : Nat) (hi : i = nI j) (hj : j < mLen f) (hdg : decode cc pc = .ok (.bastore, 1))
    (kk : ∀ (H1 : Heap) (locs1 : List Loc), mH D cy base w0 y r (z2 B f j x) H1 → va_S (fun q : Nat => base ≤ q) H0 H1 locs1 → W p l e R s m args below meth c H1 locs1 cells slots Q (F0 m (pc + 1) ls rest)) : W p l e R s m args below meth c H locs cells slots Q (F0 m pc ls (.int x :: .int i :: .ref (r f) :: rest)) := by
  obtain ⟨w, hH, hM, hF⟩ := hH
  have hk0 := (hM.2.2.1 f hf).2.1
  have h9 := (hM.2.2.1 f hf).2.2
  refine z_zast hx hb hA hH hS (m_K0 hM hf) ((m_at hM hf).2 hk) j hi hj (mLen_lt f) hx1 (w' := zsR w (r f) j x) (by rw [zst_9 (hk0.trans hk), h9.1, h9.2]) (zsR_oth w (r f) j x) (fun _ => rfl) hdg (fun H1 locs1 hH1 hS1 => kk H1 locs1 ⟨_, hH1, mRep_arr hM hf j x, mFr_R hF (by rw [hk0]; exact mKd_89 f) j x⟩ hS1)
theorem m_put {f : Nat} (hf : mNum f) (hx : p.tables.exec = Jvm.exec) (hb : c.code = cc) {index : Nat} {Ts : List Cond} (hts : ∀ w ∈ Ts, w.before args s = true) (hin : ∀ w ∈ wsX60, w ∈ Ts) (hown : s.vm.findClass RX6 = some m.cls) (hA : zA D cy base s) (hH : mH D cy base w0 y r B H) (hS : va_S (fun q : Nat => base ≤ q) H0 H locs) {v : Int32} (hlink : (Cond.fieldLink RX6 index RX6 (TX6 f).2.1 (TX6 f).2.2.1).before args s = true) (hdg : decode cc pc = .ok (.putfield index, 3))
    (kk : ∀ (H1 : Heap) (locs1 : List Loc), mH D cy base w0 y r (z2 B f 0 v) H1 → va_S (fun q : Nat => base ≤ q) H0 H1 locs1 → W p l e R s m args below meth c H1 locs1 cells slots Q (F0 m (pc + 3) ls rest)) : W p l e R s m args below meth c H locs cells slots Q (F0 m pc ls (.int v :: .ref y :: rest)) := by
  obtain ⟨w, hH, hM, hF⟩ := hH
  have kk1 : ∀ (H1 : Heap) (locs1 : List Loc), zH D cy base (zsI w (600 + f) y v) H1 → va_S (fun q : Nat => base ≤ q) H0 H1 locs1 → W p l e R s m args below meth c H1 locs1 cells slots Q (F0 m (pc + 3) ls rest) :=
    fun H1 locs1 hH1 hS1 => kk H1 locs1 ⟨_, hH1, mRep_num hM hf v, mFr_I hF (by omega) y v⟩ hS1
  rcases hf with rfl | rfl | rfl | rfl
  · exact z_put hx hb hts hin tyX6 tyX6_ok nmX6 hown hA hH hS (by rw [hM.1]; decide) (zE_k7 hM.1) (N := 28) rfl 0 (by decide) hlink (fun _ h => h) rfl (ty := .int) (by decide +kernel) rfl rfl (Nat.le_of_ble_eq_true rfl) (zs_600 hM.1 v) (zsI_oth w 600 y v) (fun _ => rfl) hdg kk1
  · exact z_put hx hb hts hin tyX6 tyX6_ok nmX6 hown hA hH hS (by rw [hM.1]; decide) (zE_k7 hM.1) (N := 28) rfl 1 (by decide) hlink (fun _ h => h) rfl (ty := .int) (by decide +kernel) rfl rfl (Nat.le_of_ble_eq_true rfl) (zs_601 hM.1 v) (zsI_oth w 601 y v) (fun _ => rfl) hdg kk1
  · exact z_put hx hb hts hin tyX6 tyX6_ok nmX6 hown hA hH hS (by rw [hM.1]; decide) (zE_k7 hM.1) (N := 28) rfl 22 (by decide) hlink (fun _ h => h) rfl (ty := .int) (by decide +kernel) rfl rfl (Nat.le_of_ble_eq_true rfl) (zs_622 hM.1 v) (zsI_oth w 622 y v) (fun _ => rfl) hdg kk1
  · exact z_put hx hb hts hin tyX6 tyX6_ok nmX6 hown hA hH hS (by rw [hM.1]; decide) (zE_k7 hM.1) (N := 28) rfl 27 (by decide) hlink (fun _ h => h) rfl (ty := .int) (by decide +kernel) rfl rfl (Nat.le_of_ble_eq_true rfl) (zs_627 hM.1 v) (zsI_oth w 627 y v) (fun _ => rfl) hdg kk1
end MROWS
