/-! THE WORLD AS MAPS. A heap's own part is told by maps: of what kind an address is (zK: 0 none, 1..7 objects of vwCl 0..6, 8 int[] of the reference, 9 boolean[], 10 Offence[], 11 Order[], 12 Person[], 13 ToolKind[], 14 long[], 15 int[] of a purse), int fields (zI, by field number 100*class+place), reference fields (zP), lengths (zN), int rows (zR), reference rows (zQ), long rows (zJ). -/
abbrev zW : Type := (Nat → Nat) × (Nat → Nat → Int32) × (Nat → Nat → Option Nat) × (Nat → Nat) × (Nat → Nat → Int32) × (Nat → Nat → Option Nat) × (Nat → Nat → Int64)
def zK (w : zW) (a : Nat) : Nat := w.1 a
def zI (w : zW) (g a : Nat) : Int32 := w.2.1 g a
def zP (w : zW) (g a : Nat) : Option Nat := w.2.2.1 g a
def zN (w : zW) (a : Nat) : Nat := w.2.2.2.1 a
def zR (w : zW) (a : Nat) : Nat → Int32 := w.2.2.2.2.1 a
def zQ (w : zW) (a : Nat) : Nat → Option Nat := w.2.2.2.2.2.1 a
def zJ (w : zW) (a : Nat) : Nat → Int64 := w.2.2.2.2.2.2 a
/-- one place of a map of two numbers -/
def z2 {α : Type} (f : Nat → Nat → α) (g a : Nat) (v : α) : Nat → Nat → α := fun h => if h = g then va_up (f h) a v else f h
def zsI (w : zW) (g a : Nat) (v : Int32) : zW := (w.1, z2 w.2.1 g a v, w.2.2)
def zsP (w : zW) (g a : Nat) (v : Option Nat) : zW := (w.1, w.2.1, z2 w.2.2.1 g a v, w.2.2.2)
def zsR (w : zW) (a i : Nat) (v : Int32) : zW := (w.1, w.2.1, w.2.2.1, w.2.2.2.1, z2 w.2.2.2.2.1 a i v, w.2.2.2.2.2)
def zsQ (w : zW) (a i : Nat) (v : Option Nat) : zW := (w.1, w.2.1, w.2.2.1, w.2.2.2.1, w.2.2.2.2.1, z2 w.2.2.2.2.2.1 a i v, w.2.2.2.2.2.2)
def zsJ (w : zW) (a i : Nat) (v : Int64) : zW := (w.1, w.2.1, w.2.2.1, w.2.2.2.1, w.2.2.2.2.1, w.2.2.2.2.2.1, z2 w.2.2.2.2.2.2 a i v)
/-- a new thing of kind k, of length n, at q: all of it 0, null -/
def zNew (w : zW) (q k n : Nat) : zW := (va_up w.1 q k, (fun g b => if b = q then 0 else w.2.1 g b), (fun g b => if b = q then none else w.2.2.1 g b), va_up w.2.2.2.1 q n, (fun b i => if b = q then 0 else w.2.2.2.2.1 b i), (fun b i => if b = q then none else w.2.2.2.2.2.1 b i), (fun b i => if b = q then 0 else w.2.2.2.2.2.2 b i))
theorem z2_same {α : Type} (f : Nat → Nat → α) (g a : Nat) (v : α) : z2 f g a v g a = v := by simp [z2, va_up]
theorem z2_ne1 {α : Type} (f : Nat → Nat → α) {g h : Nat} (a : Nat) (v : α) (hg : h ≠ g) : z2 f g a v h = f h := by simp [z2, hg]
theorem z2_ne2 {α : Type} (f : Nat → Nat → α) (g h : Nat) {a b : Nat} (v : α) (hb : b ≠ a) : z2 f g a v h b = f h b := by
  unfold z2
  by_cases h1 : h = g
  · simp [h1, va_up, hb]
  · simp [h1]
theorem z2_at {α : Type} (f : Nat → Nat → α) (g a : Nat) (v : α) (b : Nat) : z2 f g a v g b = if b = a then v else f g b := by simp [z2, va_up]
abbrev zF0 (i : Nat → Int32) (p : Nat → Option Nat) : List Value := [.int (i 0), .int (i 1), .int (i 2), .int (i 3)]
abbrev zF1 (i : Nat → Int32) (p : Nat → Option Nat) : List Value := [.int (i 100), .int (i 101), va_rf (p 102), .int (i 103), .int (i 104), .int (i 105)]
abbrev zF2 (i : Nat → Int32) (p : Nat → Option Nat) : List Value := [.int (i 200), .int (i 201), .int (i 202), .int (i 203), .int (i 204), .int (i 205), .int (i 206), va_rf (p 207), .int (i 208), .int (i 209), va_rf (p 210), va_rf (p 211), .int (i 212), .int (i 213)]
abbrev zF3 (i : Nat → Int32) (p : Nat → Option Nat) : List Value := [va_rf (p 300), .int (i 301), .int (i 302), .int (i 303)]
abbrev zF4 (i : Nat → Int32) (p : Nat → Option Nat) : List Value := [.int (i 400), .int (i 401)]
abbrev zF5 (i : Nat → Int32) (p : Nat → Option Nat) : List Value := [va_rf (p 500), va_rf (p 501), va_rf (p 502), .int (i 503), .int (i 504), .int (i 505)]
/-- what an address holds, by its kind -/
def zE0 (cy : Nat → ClassId) (k : Nat) (i : Nat → Int32) (p : Nat → Option Nat) (n : Nat) (r : Nat → Int32) (q : Nat → Option Nat) (j : Nat → Int64) : va_E := match k with
  | 1 => .inr (0, zF0 i p)
  | 2 => .inr (1, zF1 i p)
  | 3 => .inr (2, zF2 i p)
  | 4 => .inr (3, zF3 i p)
  | 5 => .inr (4, zF4 i p)
  | 6 => .inr (5, zF5 i p)
  | 8 => .inl (cy 0, n, .inl r)
  | 10 => .inl (cy 2, n, .inr (.inr (.inr (.inr q))))
  | 11 => .inl (cy 3, n, .inr (.inr (.inr (.inr q))))
  | 12 => .inl (cy 4, n, .inr (.inr (.inr (.inr q))))
  | 13 => .inl (cy 5, n, .inr (.inr (.inr (.inr q))))
  | _ => .inl (cy 0, n, .inl r)
def zE (cy : Nat → ClassId) (w : zW) (a : Nat) : va_E := zE0 cy (zK w a) (fun g => zI w g a) (fun g => zP w g a) (zN w a) (zR w a) (zQ w a) (zJ w a)
def zTy (cy : Nat → ClassId) : List (ClassId × FieldType) := [(cy 0, .int), (cy 0, .int), (cy 2, .object "ParoleCards$Offence"), (cy 3, .object "ParoleCards$Order"), (cy 4, .object "ParoleCards$Person"), (cy 5, .object "ParoleCards$ToolKind")]
def zKn (D : va_G) (cy : Nat → ClassId) (U : State) : Prop := va_K D vwCl (zTy cy) U
/-- the heap H holds the world w, all of it from base on -/
def zH (D : va_G) (cy : Nat → ClassId) (base : Nat) (w : zW) (H : Heap) : Prop := ∀ a : Nat, zK w a ≠ 0 → base ≤ a ∧ va_at D vwCl (a, zE cy w a) H
/-- the two statics of Throwable, and the texts of the exceptions -/
def zS (base : Nat) (U : State) (H : Heap) : Prop := vx_Zq Bundle.tN "UNASSIGNED_STACK" Bundle.steD (fun q => base ≤ q) U H ∧ vx_Zq Bundle.tN "SUPPRESSED_SENTINEL" Bundle.listD (fun q => base ≤ q) U H
def zTexts : List (String × Nat × String) := [(RX5, 229, "an argument is out of range"), (RX5, 38, "the house is full"), (RX5, 213, "no such person"), (RX5, 225, "no such skill"), (RX5, 232, "the person is released"), (RX2, 75, "the person has no room for another paper"), (RX5, 219, "no such offence"), (RX5, 82, "the offence was appealed"), (RX5, 223, "no such kind of tool"), (RX5, 107, "more tools are counted out"), (RX5, 115, "there is no room for another order"), (RX5, 221, "no such order"), (RX5, 128, "the person is on an order"), (RX5, 137, "the person has not the skill"), (RX5, 146, "the order takes nobody now"), (RX5, 155, "the person is on no order"), (RX5, 178, "no such account"), (RX5, 181, "the account has less"), (RX5, 187, "it would be more than the limit")]
def zTx (U : State) : Prop := ∀ q ∈ zTexts, ∃ a : Nat, vk_R q.1 q.2.1 q.2.2 a U
abbrev zIse : String := "java/lang/IllegalStateException"
abbrev zIae : String := "java/lang/IllegalArgumentException"
abbrev zIob : String := "java/lang/IndexOutOfBoundsException"
abbrev zUp : List String := ["java/lang/RuntimeException", "java/lang/Exception"]
/-- the words of the throws that the tables tell, but not for good -/
def zFace : List Cond := (vx_atS RX5 40 zIse zUp ++ vx_atS RX5 231 zIae zUp ++ vx_atS RX5 180 zIob zUp ++ vx_atS RX2 77 zIse zUp).filter (fun w => !goodWord w)
def zFc (U : State) : Prop := ∀ w ∈ zFace, w.before #[] U = true
def zAo (U : State) : Prop := va_AO "ParoleCards$Offence" U ∧ va_AO "ParoleCards$Order" U ∧ va_AO "ParoleCards$Person" U ∧ va_AO "ParoleCards$ToolKind" U
def zNc (U : State) : Prop := va_Nc zIse zIob U ∧ va_Nc zIse zIae U ∧ va_Nc zIae zIob U ∧ va_Nw (.methodLinkNest RX2 23 yX3_init RX5) U ∧ va_Nw (.methodLinkNest RX5 27 yX4_init RX5) U
/-- what a method needs of its start beside the world -/
def zA (D : va_G) (cy : Nat → ClassId) (base : Nat) (U : State) : Prop := base ≤ U.heap.size ∧ zKn D cy U ∧ zS base U U.heap ∧ zTx U ∧ zFc U ∧ zAo U ∧ zNc U
theorem zFace_ok : zFace.all (fun w => w.onTables && w.keepsFace) = true := by decide +kernel
theorem zFc_warm {s U : State} (hW : s.WarmedH U.vm) (h : zFc s) : zFc U := by
  intro w hw
  have h1 := List.all_eq_true.mp zFace_ok w hw
  rw [Bool.and_eq_true] at h1
  have h2 : w.before #[] (s.setVm U.vm) = true := Cond.before_shiftedFace (State.Shifted.of_warmed hW) w h1.2 (h w hw)
  exact va_tabs (u := s.setVm U.vm) h1.1 rfl h2
theorem zFc_same {u U : State} (hv : u.vm = U.vm) (h : zFc u) : zFc U := by
  intro w hw
  have h1 := List.all_eq_true.mp zFace_ok w hw
  rw [Bool.and_eq_true] at h1
  exact va_tabs h1.1 hv (h w hw)
theorem zA_same {D : va_G} {cy : Nat → ClassId} {base : Nat} {u U : State} (hv : u.vm = U.vm) (hh : u.heap = U.heap) (h : zA D cy base u) : zA D cy base U := by
  obtain ⟨h1, h2, h3, h4, h5, h6, h7⟩ := h
  have ha : u.vm.Alike U.vm := by rw [hv]; exact Vm.Alike.refl _
  refine ⟨by rw [← hh]; exact h1, va_K.moved ha h2, ?_, ?_, zFc_same hv h5, ?_, ?_⟩
  · rw [← hh]; exact ⟨vx_Zq.moved ha h3.1, vx_Zq.moved ha h3.2⟩
  · intro q hq; obtain ⟨a, ha⟩ := h4 q hq; exact ⟨a, vk_R.same hv.symm ha⟩
  · exact ⟨va_AO.moved ha h6.1, va_AO.moved ha h6.2.1, va_AO.moved ha h6.2.2.1, va_AO.moved ha h6.2.2.2⟩
  · exact ⟨va_Nc.moved ha h7.1, va_Nc.moved ha h7.2.1, va_Nc.moved ha h7.2.2.1, va_Nw.same rfl hv h7.2.2.2.1, va_Nw.same rfl hv h7.2.2.2.2⟩
theorem zA_go {D : va_G} {cy : Nat → ClassId} {base : Nat} {s U : State} {H : Heap} {locs : List Loc} (hS : va_S (fun q : Nat => base ≤ q) s.heap H locs) (hU : U.heap = H) (hW : s.WarmedH U.vm) (h : zA D cy base s) : zA D cy base U := by
  obtain ⟨h1, h2, h3, h4, h5, h6, h7⟩ := h
  have ha : s.vm.Alike U.vm := hW.alike
  refine ⟨by rw [hU]; exact Nat.le_trans h1 hS.1, va_K.moved ha h2, ?_, ?_, zFc_warm hW h5, ?_, ?_⟩
  · rw [hU]; exact ⟨(vx_Zq.moved ha h3.1).kept (fun a h8 h9 => hS.2.1 a h8 h9), (vx_Zq.moved ha h3.2).kept (fun a h8 h9 => hS.2.1 a h8 h9)⟩
  · intro q hq; obtain ⟨a, ha⟩ := h4 q hq; exact ⟨a, vk_R.warm hW ha⟩
  · exact ⟨va_AO.moved ha h6.1, va_AO.moved ha h6.2.1, va_AO.moved ha h6.2.2.1, va_AO.moved ha h6.2.2.2⟩
  · exact ⟨va_Nc.moved ha h7.1, va_Nc.moved ha h7.2.1, va_Nc.moved ha h7.2.2.1, va_Nw.warmM hW h7.2.2.2.1, va_Nw.warmM hW h7.2.2.2.2⟩
/-! contracts: start, ends -/
/-- a method's start: the arguments, what it needs, its world u (of a kind S, held by HB) -/
def zPc {S : Type} (D : va_G) (cy : Nat → ClassId) (base : Nat) (HB : S → Heap → Prop) (As : List Value) (u : S) : Array Value → State → Prop := va_Pc As (fun U => zA D cy base U ∧ HB u U.heap)
def zQi {S : Type} (base : Nat) (HB : S → Heap → Prop) (post : Int32 → S → Prop) : Array Value → State → Outcome → State → Prop := va_Qi post (fun u t => HB u t.heap) (fun q => base ≤ q)
def zQv {S : Type} (base : Nat) (HB : S → Heap → Prop) (post : S → Prop) : Array Value → State → Outcome → State → Prop := va_Qv post (fun u t => HB u t.heap) (fun q => base ≤ q)
def zQr {S : Type} (base : Nat) (HB : S → Heap → Prop) (post : Nat → S → Prop) : Array Value → State → Outcome → State → Prop := fun _ st oc t => (∃ (r : Nat) (u : S), oc = .returned (some (.ref r)) ∧ post r u ∧ HB u t.heap) ∧ va_F (fun q => base ≤ q) st t
/-- a throw of one of the classes px, the world as it was -/
def zXC {S : Type} (base : Nat) (HB : S → Heap → Prop) (px : String → S → Prop) : String → State → State → Prop := fun E st t => (∃ u : S, px E u ∧ HB u t.heap) ∧ va_F (fun q => base ≤ q) st t
theorem zPc_blind {S : Type} {D : va_G} {cy : Nat → ClassId} {base : Nat} {HB : S → Heap → Prop} {As : List Value} {u : S} : FrameBlind (zPc D cy base HB As u) := by
  intro a U g mk h
  obtain ⟨h1, h2, h3⟩ := h
  exact ⟨h1, zA_same (u := U) (U := U.calling g mk a) rfl rfl h2, h3⟩
section ZROWS
variable {p : Program} {l : Launch} {e : Env} {R : Room} {s : State} {m : MethodId} {args : Array Value} {below : List Frame} {meth : Method} {c : Code} {H : Heap} {locs : List Loc} {cells slots : Nat} {Q : State → Prop} {cc : ByteArray} {pc : Nat} {ls : Array Slot} {rest : List Value} {D : va_G} {cy : Nat → ClassId} {base : Nat} {w : zW} {H0 : Heap}
theorem z_preS {S : Type} {HB : S → Heap → Prop} {As : List Value} {u : S} (hA : zA D cy base s) (hS : va_S (fun q : Nat => base ≤ q) s.heap H locs) (hH : HB u H) : PreS s H (zPc D cy base HB As u) As :=
  ⟨zPc_blind, fun U hU hW => ⟨rfl, zA_go hS hU hW hA, by rw [hU]; exact hH⟩⟩
theorem z_preV {S : Type} {HB : S → Heap → Prop} {As : List Value} {b : Nat} {C : String} {u : S} (hA : zA D cy base s) (hS : va_S (fun q : Nat => base ≤ q) s.heap H locs) (hH : HB u H) (hrc : ∃ cellB : Cell, H[b]? = some cellB ∧ cellB.vm.isStatics = false ∧ s.vm.findClass C = some cellB.cls) : PreV s H C b (zPc D cy base HB (.ref b :: As) u) As :=
  ⟨zPc_blind, hrc, fun U hU hW => ⟨rfl, zA_go hS hU hW hA, by rw [hU]; exact hH⟩⟩
theorem zH_one (hH : zH D cy base w H) {a : Nat} (h0 : zK w a ≠ 0) {x : va_E} (he : zE cy w a = x) : va_P D vwCl [(a, x)] H := by
  intro k q hk
  match k, hk with
  | 0, hk => cases hk; rw [← he]; exact (hH a h0).2
  | k + 1, hk => simp at hk
/-- the receiver's class -/
theorem z_recv (hA : zA D cy base s) (hH : zH D cy base w H) {a ci : Nat} (h0 : zK w a ≠ 0) {fs : List Value} (he : zE cy w a = .inr (ci, fs)) {q : vw_C} (hc : vwCl[ci]? = some q) : ∃ cell : Cell, H[a]? = some cell ∧ cell.vm.isStatics = false ∧ s.vm.findClass q.1 = some cell.cls :=
  va_recv (ws := [(a, .inr (ci, fs))]) (q0 := 0) hA.2.1 (zH_one hH h0 he) hc rfl
theorem z_get (hx : p.tables.exec = Jvm.exec) (hb : c.code = cc) {own ref C : String} {T : u_T} {N ci index : Nat} {Ts : List Cond} (hts : ∀ w ∈ Ts, w.before args s = true) (hin : ∀ w ∈ u_ws C T N, w ∈ Ts) (hown : s.vm.findClass own = some m.cls) (hA : zA D cy base s) (hH : zH D cy base w H) {a : Nat} (h0 : zK w a ≠ 0) {fs : List Value} (he : zE cy w a = .inr (ci, fs)) (hc : vwCl[ci]? = some (C, T, N)) (k : Nat) (hk : k < N) (hlink : (Cond.fieldLink own index ref (T k).2.1 (T k).2.2.1).before args s = true) (hsame : ∀ x, s.fieldFound? (T k).1 (T k).2.1 (T k).2.2.1 = some x → s.fieldFound? ref (T k).2.1 (T k).2.2.1 = some x) {v : Value} (hv : fs[k]? = some v) (hdg : decode cc pc = .ok (.getfield index, 3))
    (kk : W p l e R s m args below meth c H locs cells slots Q (F0 m (pc + 3) ls (v :: rest))) : W p l e R s m args below meth c H locs cells slots Q (F0 m pc ls (.ref a :: rest)) :=
  va_get (D := D) (cl := vwCl) (tys := zTy cy) (ws := [(a, .inr (ci, fs))]) hx hb hts hin hown hA.2.1 (zH_one hH h0 he) 0 rfl hc k hk hlink hsame hv hdg kk
theorem zH_set {w' : zW} {a : Nat} {H1 : Heap} (hH : zH D cy base w H) (h0 : zK w a ≠ 0) (he : va_at D vwCl (a, zE cy w' a) H1) (oq : ∀ q : Nat, q ≠ a → H1[q]? = H[q]?) (ho : ∀ b, b ≠ a → zE cy w' b = zE cy w b) (hk : ∀ b, zK w' b = zK w b) : zH D cy base w' H1 := by
  intro b hb
  rw [hk b] at hb
  by_cases h : b = a
  · subst h; exact ⟨(hH b h0).1, he⟩
  · exact ⟨(hH b hb).1, by rw [ho b h]; exact (hH b hb).2.kept (oq b h)⟩
theorem z_S {a : Nat} {H1 : Heap} {j : Nat} (hS : va_S (fun q : Nat => base ≤ q) H0 H locs) (hs : H1.size = H.size) (oq : ∀ q : Nat, q ≠ a → H1[q]? = H[q]?) (ha : base ≤ a) : va_S (fun q : Nat => base ≤ q) H0 H1 (locs ++ [⟨a, j⟩]) := hS.put hs oq ha
theorem zsI_oth (w : zW) (g a : Nat) (v : Int32) : ∀ b, b ≠ a → zE cy (zsI w g a v) b = zE cy w b := by
  intro b hb
  have h : (fun g' => zI (zsI w g a v) g' b) = (fun g' => zI w g' b) := funext fun g' => z2_ne2 _ _ _ _ hb
  unfold zE
  rw [h]
  rfl
theorem zsP_oth (w : zW) (g a : Nat) (v : Option Nat) : ∀ b, b ≠ a → zE cy (zsP w g a v) b = zE cy w b := by
  intro b hb
  have h : (fun g' => zP (zsP w g a v) g' b) = (fun g' => zP w g' b) := funext fun g' => z2_ne2 _ _ _ _ hb
  unfold zE
  rw [h]
  rfl
theorem zsR_oth (w : zW) (a i : Nat) (v : Int32) : ∀ b, b ≠ a → zE cy (zsR w a i v) b = zE cy w b := by
  intro b hb
  have h : zR (zsR w a i v) b = zR w b := z2_ne1 _ _ _ hb
  unfold zE
  rw [h]
  rfl
theorem zsQ_oth (w : zW) (a i : Nat) (v : Option Nat) : ∀ b, b ≠ a → zE cy (zsQ w a i v) b = zE cy w b := by
  intro b hb
  have h : zQ (zsQ w a i v) b = zQ w b := z2_ne1 _ _ _ hb
  unfold zE
  rw [h]
  rfl
theorem zsJ_oth (w : zW) (a i : Nat) (v : Int64) : ∀ b, b ≠ a → zE cy (zsJ w a i v) b = zE cy w b := by
  intro b hb
  have h : zJ (zsJ w a i v) b = zJ w b := z2_ne1 _ _ _ hb
  unfold zE
  rw [h]
  rfl
theorem z_put (hx : p.tables.exec = Jvm.exec) (hb : c.code = cc) {own ref C : String} {T : u_T} {N ci index : Nat} {Ts : List Cond} (hts : ∀ w ∈ Ts, w.before args s = true) (hin : ∀ w ∈ u_ws C T N, w ∈ Ts) (ty0 : Nat → FieldType) (hty : ∀ k, k < N → parseFieldDescriptor (T k).2.2.1 = some (ty0 k)) (hnm : ∀ a, a < N → ∀ b, b < N → a ≠ b → (T a).2.1 ≠ (T b).2.1) (hown : s.vm.findClass own = some m.cls) (hA : zA D cy base s) (hH : zH D cy base w H) (hS0 : va_S (fun q : Nat => base ≤ q) H0 H locs) {a : Nat} (h0 : zK w a ≠ 0) {fs : List Value} (he : zE cy w a = .inr (ci, fs)) (hc : vwCl[ci]? = some (C, T, N)) (k : Nat) (hk : k < N) (hlink : (Cond.fieldLink own index ref (T k).2.1 (T k).2.2.1).before args s = true) (hsame : ∀ x, s.fieldFound? (T k).1 (T k).2.1 (T k).2.2.1 = some x → s.fieldFound? ref (T k).2.1 (T k).2.2.1 = some x) (hfin : (T k).2.2.2 = false) {ty : FieldType} {v : Value} (hd : parseFieldDescriptor (T k).2.2.1 = some ty) (hn : narrow ty v = v) (hfit : fits ty v = true) (hl : k < fs.length)
    {w' : zW} (he' : zE cy w' a = .inr (ci, fs.set k v)) (ho : ∀ b, b ≠ a → zE cy w' b = zE cy w b) (hk' : ∀ b, zK w' b = zK w b) (hdg : decode cc pc = .ok (.putfield index, 3))
    (kk : ∀ (H1 : Heap) (locs1 : List Loc), zH D cy base w' H1 → va_S (fun q : Nat => base ≤ q) H0 H1 locs1 → W p l e R s m args below meth c H1 locs1 cells slots Q (F0 m (pc + 3) ls rest)) : W p l e R s m args below meth c H locs cells slots Q (F0 m pc ls (v :: .ref a :: rest)) := by
  have hK := hA.2.1
  have hP := zH_one hH h0 he
  have hap := va_apart (own := own) hts hin ty0 hty hnm hK hc
  obtain ⟨r, h1, cell, q1, q2, q3, q4⟩ := hP 0 _ rfl
  have hr : r = (C, T, N) := Option.some.inj (h1.symm.trans hc)
  subst hr
  obtain ⟨hSl, hfc, kC, hkC, hkind⟩ := hK.1 ci _ hc
  obtain ⟨cf, kf, fi, f, hi, hsl⟩ := hSl k hk
  have hlay := hts _ (hin _ (u_in_lay hk))
  unfold u_lay at hlay
  rw [if_neg (by rw [hfin]; decide)] at hlay
  have hst := (u_facts hfc hkC (u_lays hts hin hk) hi).1
  have h6 := u_store hfc hkC hkind hlay hi hd hn hfit
  refine W.putK hx hb (f := f) ⟨hown, hlink, ⟨_, _, _, hsame _ hi⟩, hst⟩ (by rw [q2]; exact h6) q1 q3 (by rw [hsl]; exact k2_hasslot (q4 k hk)) rfl rfl hdg fun H' e1 e2 e3 => ?_
  rw [hsl] at e1 ⊢
  refine kk H' _ (zH_set hH h0 ?_ e3 ho hk') (hS0.put e2 e3 (hH a h0).1)
  rw [he']
  exact ⟨_, hc, t_OB.to (V := updV (vp_V fs) k v) ⟨_, e1, q2, q3, t_set q4 hap hk v⟩ (fun j _ => vp_updV_set hl v j)⟩
theorem z_putF (hx : p.tables.exec = Jvm.exec) (hb : c.code = cc) {own ref C : String} {T : u_T} {N ci index : Nat} {Ts : List Cond} (hts : ∀ w ∈ Ts, w.before args s = true) (hin : ∀ w ∈ u_ws C T N, w ∈ Ts) (ty0 : Nat → FieldType) (hty : ∀ k, k < N → parseFieldDescriptor (T k).2.2.1 = some (ty0 k)) (hnm : ∀ a, a < N → ∀ b, b < N → a ≠ b → (T a).2.1 ≠ (T b).2.1) (hown : s.vm.findClass own = some m.cls) (hA : zA D cy base s) (hH : zH D cy base w H) (hS0 : va_S (fun q : Nat => base ≤ q) H0 H locs) {a : Nat} (h0 : zK w a ≠ 0) {fs : List Value} (he : zE cy w a = .inr (ci, fs)) (hc : vwCl[ci]? = some (C, T, N)) (k : Nat) (hk : k < N) (hlink : (Cond.fieldLink own index ref (T k).2.1 (T k).2.2.1).before args s = true) (hsame : ∀ x, s.fieldFound? (T k).1 (T k).2.1 (T k).2.2.1 = some x → s.fieldFound? ref (T k).2.1 (T k).2.2.1 = some x) (hfin : (T k).2.2.2 = true) (hin2 : meth.name = "<init>") (hdecl : (T k).1 = own) {ty : FieldType} {v : Value} (hd : parseFieldDescriptor (T k).2.2.1 = some ty) (hn : narrow ty v = v) (hfit : fits ty v = true) (hl : k < fs.length)
    {w' : zW} (he' : zE cy w' a = .inr (ci, fs.set k v)) (ho : ∀ b, b ≠ a → zE cy w' b = zE cy w b) (hk' : ∀ b, zK w' b = zK w b) (hdg : decode cc pc = .ok (.putfield index, 3))
    (kk : ∀ (H1 : Heap) (locs1 : List Loc), zH D cy base w' H1 → va_S (fun q : Nat => base ≤ q) H0 H1 locs1 → W p l e R s m args below meth c H1 locs1 cells slots Q (F0 m (pc + 3) ls rest)) : W p l e R s m args below meth c H locs cells slots Q (F0 m pc ls (v :: .ref a :: rest)) := by
  have hK := hA.2.1
  have hP := zH_one hH h0 he
  have hap := va_apart (own := own) hts hin ty0 hty hnm hK hc
  obtain ⟨r, h1, cell, q1, q2, q3, q4⟩ := hP 0 _ rfl
  have hr : r = (C, T, N) := Option.some.inj (h1.symm.trans hc)
  subst hr
  obtain ⟨hSl, hfc, kC, hkC, hkind⟩ := hK.1 ci _ hc
  obtain ⟨cf, kf, fi, f, hi, hsl⟩ := hSl k hk
  have hlay := hts _ (hin _ (u_in_lay hk))
  unfold u_lay at hlay
  rw [if_pos hfin] at hlay
  have hst := (u_facts hfc hkC (u_lays hts hin hk) hi).1
  have hcf : m.cls = cf := by
    obtain ⟨_, _, c', _, _, _, -, -, hf', -, -, -, hown2, -⟩ := Cond.laysFinal_spec hlay
    have e1 : c' = cf := by have := hi.symm.trans hf'; simp at this; exact this.1.symm
    rw [hdecl] at hown2
    rw [← e1]; exact Option.some.inj (hown.symm.trans hown2)
  have h6 := u_fits hfc hkC hkind (Or.inr hlay) hi hd hn hfit
  refine W.putFinK hx hb hown hlink (hsame _ hi) hst hcf hin2 (by rw [q2]; exact h6) q1 q3 (by rw [hsl]; exact k2_hasslot (q4 k hk)) rfl rfl hdg fun H' e1 e2 e3 => ?_
  rw [hsl] at e1 ⊢
  refine kk H' _ (zH_set hH h0 ?_ e3 ho hk') (hS0.put e2 e3 (hH a h0).1)
  rw [he']
  exact ⟨_, hc, t_OB.to (V := updV (vp_V fs) k v) ⟨_, e1, q2, q3, t_set q4 hap hk v⟩ (fun j _ => vp_updV_set hl v j)⟩
/-! arrays -/
theorem z_alen (hx : p.tables.exec = Jvm.exec) (hb : c.code = cc) (hA : zA D cy base s) (hH : zH D cy base w H) {a : Nat} (h0 : zK w a ≠ 0) {cA : ClassId} {x : vp_A} (he : zE cy w a = .inl (cA, x)) (t0 : Nat) {ty : FieldType} (ht : (zTy cy)[t0]? = some (cA, ty)) {v : Int32} (hv : Int32.ofNat x.1 = v) (hdg : decode cc pc = .ok (.arraylength, 1))
    (kk : W p l e R s m args below meth c H locs cells slots Q (F0 m (pc + 1) ls (.int v :: rest))) : W p l e R s m args below meth c H locs cells slots Q (F0 m pc ls (.ref a :: rest)) :=
  va_alen (D := D) (cl := vwCl) (tys := zTy cy) (ws := [(a, .inl (cA, x))]) hx hb hA.2.1 (zH_one hH h0 he) 0 t0 rfl ht hv hdg kk
theorem z_iald (hx : p.tables.exec = Jvm.exec) (hb : c.code = cc) (hA : zA D cy base s) (hH : zH D cy base w H) {a : Nat} (h0 : zK w a ≠ 0) {n : Nat} {f : Nat → Int32} (he : zE cy w a = .inl (cy 0, n, .inl f)) {i v : Int32} (j : Nat) (hi : i = nI j) (hj : j < n) (hn : n < 2 ^ 31) (hv : f j = v) (hdg : decode cc pc = .ok (.iaload, 1))
    (kk : W p l e R s m args below meth c H locs cells slots Q (F0 m (pc + 1) ls (.int v :: rest))) : W p l e R s m args below meth c H locs cells slots Q (F0 m pc ls (.int i :: .ref a :: rest)) := by
  subst hi
  subst hv
  refine va_iald (D := D) (cl := vwCl) (tys := zTy cy) (ws := [(a, .inl (cy 0, n, .inl f))]) hx hb hA.2.1 (zH_one hH h0 he) 0 0 rfl rfl (vp_in_nI hj hn) hdg ?_
  rw [nI_clamp (Nat.lt_trans hj hn)]
  exact kk
theorem z_aald (hx : p.tables.exec = Jvm.exec) (hb : c.code = cc) (hA : zA D cy base s) (hH : zH D cy base w H) {a : Nat} (h0 : zK w a ≠ 0) {cA : ClassId} {C : String} {n : Nat} {f : Nat → Option Nat} (he : zE cy w a = .inl (cA, n, .inr (.inr (.inr (.inr f))))) (t0 : Nat) (ht : (zTy cy)[t0]? = some (cA, .object C)) {i : Int32} (j : Nat) (hi : i = nI j) (hj : j < n) (hn : n < 2 ^ 31) {v : Option Nat} (hv : f j = v) (hdg : decode cc pc = .ok (.aaload, 1))
    (kk : W p l e R s m args below meth c H locs cells slots Q (F0 m (pc + 1) ls (va_rf v :: rest))) : W p l e R s m args below meth c H locs cells slots Q (F0 m pc ls (.int i :: .ref a :: rest)) := by
  subst hi
  subst hv
  refine va_aldq (D := D) (cl := vwCl) (tys := zTy cy) (ws := [(a, .inl (cA, n, .inr (.inr (.inr (.inr f)))))]) hx hb hA.2.1 (zH_one hH h0 he) 0 t0 rfl ht (vp_in_nI hj hn) hdg ?_
  rw [nI_clamp (Nat.lt_trans hj hn)]
  exact kk
theorem z_iast (hx : p.tables.exec = Jvm.exec) (hb : c.code = cc) (hA : zA D cy base s) (hH : zH D cy base w H) (hS : va_S (fun q : Nat => base ≤ q) H0 H locs) {a : Nat} (h0 : zK w a ≠ 0) {n : Nat} {f : Nat → Int32} (he : zE cy w a = .inl (cy 0, n, .inl f)) {i x : Int32} (j : Nat) (hi : i = nI j) (hj : j < n) (hn : n < 2 ^ 31) {w' : zW} (he' : zE cy w' a = .inl (cy 0, n, .inl (va_up f j x))) (ho : ∀ b, b ≠ a → zE cy w' b = zE cy w b) (hk' : ∀ b, zK w' b = zK w b) (hdg : decode cc pc = .ok (.iastore, 1))
    (kk : ∀ (H1 : Heap) (locs1 : List Loc), zH D cy base w' H1 → va_S (fun q : Nat => base ≤ q) H0 H1 locs1 → W p l e R s m args below meth c H1 locs1 cells slots Q (F0 m (pc + 1) ls rest)) : W p l e R s m args below meth c H locs cells slots Q (F0 m pc ls (.int x :: .int i :: .ref a :: rest)) := by
  subst hi
  have hP := zH_one hH h0 he
  refine W.iast hx hb (hP 0 _ rfl) ((hA.2.1.2 0 _ rfl).1 n (fun j => .int (f j))) (fun q => by cases q) (by show ¬ (nI j < 0 ∨ (arrV _ _ _).slots.size ≤ _); rw [arrV_size]; exact vp_in_nI hj hn) rfl rfl hdg fun H1 e1 e2 e3 => ?_
  refine kk H1 _ (zH_set hH h0 ?_ e3 ho hk') (hS.put e2 e3 (hH a h0).1)
  rw [he']
  show H1[a]? = some (vp_cell _ _)
  rw [e1, nI_clamp (Nat.lt_trans hj hn)]
  rw [vp_cell_i, vp_cell_i, arrV_store]
  congr 2
  funext q
  by_cases hq : q = j
  · subst hq; simp [updV, va_up]
  · simp [updV, va_up, hq]
theorem z_aast (hx : p.tables.exec = Jvm.exec) (hb : c.code = cc) (hA : zA D cy base s) (hH : zH D cy base w H) (hS : va_S (fun q : Nat => base ≤ q) H0 H locs) {a : Nat} (h0 : zK w a ≠ 0) {cA : ClassId} {r : vw_C} {n v ci : Nat} {vs : List Value} {f : Nat → Option Nat} (he : zE cy w a = .inl (cA, n, .inr (.inr (.inr (.inr f))))) (t0 : Nat) (ht : (zTy cy)[t0]? = some (cA, .object r.1)) (hv0 : zK w v ≠ 0) (hv : zE cy w v = .inr (ci, vs)) (hc : vwCl[ci]? = some r) {i : Int32} (j : Nat) (hi : i = nI j) (hj : j < n) (hn : n < 2 ^ 31) {w' : zW} (he' : zE cy w' a = .inl (cA, n, .inr (.inr (.inr (.inr (va_up f j (some v))))))) (ho : ∀ b, b ≠ a → zE cy w' b = zE cy w b) (hk' : ∀ b, zK w' b = zK w b) (hdg : decode cc pc = .ok (.aastore, 1))
    (kk : ∀ (H1 : Heap) (locs1 : List Loc), zH D cy base w' H1 → va_S (fun q : Nat => base ≤ q) H0 H1 locs1 → W p l e R s m args below meth c H1 locs1 cells slots Q (F0 m (pc + 1) ls rest)) : W p l e R s m args below meth c H locs cells slots Q (F0 m pc ls (.ref v :: .int i :: .ref a :: rest)) := by
  subst hi
  have hP := zH_one hH h0 he
  obtain ⟨r', hr', cellV, g1, g2, g3, -⟩ := (zH_one hH hv0 hv) 0 _ rfl
  have hcls := (hA.2.1.1 ci r hc).2
  obtain ⟨kA, comp, k1, k2, k3, -⟩ := (hA.2.1.2 t0 _ ht).2
  have hcomp : comp = D.1 ci := Option.some.inj (k3.symm.trans hcls.1)
  subst hcomp
  obtain ⟨kC, hkC, -⟩ := hcls.2
  have hi9 := nI_clamp (Nat.lt_trans hj hn)
  refine W.aast hx hb (hP 0 _ rfl) (fun q h => by cases h) (fun h => by cases h) k1 k2 rfl hkC ⟨nI_pos (Nat.lt_trans hj hn), by show _ < (arrV _ _ _).slots.size; rw [arrV_size, hi9]; exact hj⟩ g1 (fun q h => by rw [g3] at h; cases h) (by rw [g2]; exact hkC) (by rw [g2]; exact va_assign hcls) rfl rfl hdg fun H1 e1 e2 e3 => ?_
  refine kk H1 _ (zH_set hH h0 ?_ e3 ho hk') (hS.put e2 e3 (hH a h0).1)
  rw [he']
  show H1[a]? = some (vp_cell _ _)
  rw [e1, hi9]
  rw [vp_cell_q, vp_cell_q, arrV_store]
  congr 2
  funext q
  by_cases hq : q = j
  · subst hq; simp [updV, va_up, va_rf]
  · simp [updV, va_up, hq]
/-! new things -/
theorem zNew_oth (w : zW) (q k n : Nat) : ∀ b, b ≠ q → zE cy (zNew w q k n) b = zE cy w b := by
  intro b hb
  unfold zE zNew zK zI zP zN zR zQ zJ
  simp [va_up, hb]
theorem zNew_K (w : zW) (q k n b : Nat) : zK (zNew w q k n) b = if b = q then k else zK w b := by simp [zNew, zK, va_up]
theorem zH_new {q k n : Nat} {H1 : Heap} (hH : zH D cy base w H) (hq : q = H.size) (hb : base ≤ q) (he : va_at D vwCl (q, zE cy (zNew w q k n) q) H1) (oq : ∀ x : Nat, x < q → H1[x]? = H[x]?) : zH D cy base (zNew w q k n) H1 ∧ zK w q = 0 := by
  have h9 : ∀ a, zK w a ≠ 0 → a < q := fun a ha => by rw [hq]; exact (hH a ha).2.lt
  refine ⟨fun b hb9 => ?_, ?_⟩
  · by_cases h : b = q
    · subst h; exact ⟨hb, he⟩
    · rw [zNew_K, if_neg h] at hb9
      exact ⟨(hH b hb9).1, by rw [zNew_oth w q k n b h]; exact (hH b hb9).2.kept (oq b (h9 b hb9))⟩
  · by_cases h : zK w q = 0
    · exact h
    · exact absurd (h9 q h) (Nat.lt_irrefl q)
theorem z_new (hx : p.tables.exec = Jvm.exec) (hb : c.code = cc) {own C : String} {T : u_T} {N ci index k : Nat} {Ts : List Cond} (hts : ∀ w ∈ Ts, w.before args s = true) (hin : ∀ w ∈ u_ws C T N, w ∈ Ts) (ty : Nat → FieldType) (hty : ∀ k, k < N → parseFieldDescriptor (T k).2.2.1 = some (ty k)) (hown : s.vm.findClass own = some m.cls) (hcl : (Cond.classLink own index C).before args s = true) (hinst : (Cond.instantiable C N).before args s = true) (hini : (Cond.initialized C).before args s = true)
    (hA : zA D cy base s) (hH : zH D cy base w H) (hS : va_S (fun q : Nat => base ≤ q) s.heap H locs) (hc : vwCl[ci]? = some (C, T, N)) {fs : List Value} (hfs : ∀ j, j < N → defaultValue (ty j) = vp_V fs j) (he : ∀ q, zE cy (zNew w q k 0) q = .inr (ci, fs)) (hcells : cells + 1 ≤ R.cells) (hslots : slots + N ≤ R.slots) (hdg : decode cc pc = .ok (.new index, 3))
    (kk : ∀ (q : Nat) (H1 : Heap), zK w q = 0 → zH D cy base (zNew w q k 0) H1 → va_S (fun q : Nat => base ≤ q) s.heap H1 locs →
      W p l e R s m args below meth c H1 locs (cells + 1) (slots + N) Q (F0 m (pc + 3) ls (.ref q :: rest))) : W p l e R s m args below meth c H locs cells slots Q (F0 m pc ls rest) := by
  have hKn := hA.2.1.1 ci _ hc
  have hbs : base ≤ H.size := Nat.le_trans hA.1 hS.1
  refine W.newcK hx hb hown hcl hinst hini rfl hdg hcells hslots hKn.2.1 rfl fun H1 kC hkC e1 z1 o1 => ?_
  obtain ⟨g1, g2⟩ := zH_new (k := k) (n := 0) (H1 := H1) hH rfl hbs (by rw [he]; exact ⟨_, hc, (u_born ty hts hin hKn hkC e1 hty).to hfs⟩) o1
  exact kk H.size H1 g2 g1 ⟨Nat.le_trans hS.1 (by omega), fun x h1 h2 => (o1 x (Nat.lt_of_lt_of_le h1 hS.1)).trans (hS.2.1 x h1 h2), hS.2.2⟩
theorem z_newa (hx : p.tables.exec = Jvm.exec) (hb : c.code = cc) {atype : ArrayType} (harr : (Cond.arrayClass (newarray.typeOf atype)).before args s = true) {ty : FieldType} (hty : newarray.typeOf atype = ty) (hA : zA D cy base s) (hH : zH D cy base w H) (hS : va_S (fun q : Nat => base ≤ q) s.heap H locs) {k : Nat}
    {n : Int32} {N' t0 : Nat} {a0 : vp_A} {cA : ClassId} (ht : (zTy cy)[t0]? = some (cA, ty)) (hra : va_RA s cA ty = (s.vm.findClass ("[" ++ ty.toString) = some cA)) (ha : vp_cell cA a0 = arrV cA N' (fun _ => defaultValue ty)) (he : ∀ q, zE cy (zNew w q k N') q = .inl (cA, a0)) (hn : ¬ n < 0) (hN : n.toNatClampNeg = N') (hbytes : N' * componentBytes ty ≤ 536870912) (hcells : cells + 1 ≤ R.cells) (hslots : slots + N' ≤ R.slots) (hdg : decode cc pc = .ok (.newarray atype, 2))
    (kk : ∀ (q : Nat) (H1 : Heap), zK w q = 0 → zH D cy base (zNew w q k N') H1 → va_S (fun q : Nat => base ≤ q) s.heap H1 locs →
      W p l e R s m args below meth c H1 locs (cells + 1) (slots + N') Q (F0 m (pc + 2) ls (.ref q :: rest))) : W p l e R s m args below meth c H locs cells slots Q (F0 m pc ls (.int n :: rest)) := by
  subst hty
  have hbs : base ≤ H.size := Nat.le_trans hA.1 hS.1
  have h2 := (hA.2.1.2 t0 _ ht).2
  rw [hra] at h2
  refine va_newaK hx hb harr rfl hdg rfl hn hN hbytes hcells hslots rfl fun H1 cA9 e1 z1 o1 hAr hNm => ?_
  have hcA : cA9 = cA := Option.some.inj (hNm.symm.trans h2)
  subst hcA
  obtain ⟨g1, g2⟩ := zH_new (k := k) (n := N') (H1 := H1) hH rfl hbs (by rw [he]; show H1[H.size]? = some (vp_cell _ _); rw [ha]; exact e1) o1
  exact kk H.size H1 g2 g1 ⟨Nat.le_trans hS.1 (by omega), fun x h1 h2 => (o1 x (Nat.lt_of_lt_of_le h1 hS.1)).trans (hS.2.1 x h1 h2), hS.2.2⟩
end ZROWS
section ZROWS2
variable {p : Program} {l : Launch} {e : Env} {R : Room} {s : State} {m : MethodId} {args : Array Value} {below : List Frame} {meth : Method} {c : Code} {H : Heap} {locs : List Loc} {cells slots : Nat} {Q : State → Prop} {cc : ByteArray} {pc : Nat} {ls : Array Slot} {rest st0 : List Value} {D : va_G} {cy : Nat → ClassId} {base : Nat} {w : zW} {H0 : Heap}
theorem z_newq (hx : p.tables.exec = Jvm.exec) (hb : c.code = cc) {own C : String} {index k : Nat} (hown : s.vm.findClass own = some m.cls) (hclink : (Cond.classLink own index C).before args s = true) (hover : va_AO C s) (hA : zA D cy base s) (hH : zH D cy base w H) (hS : va_S (fun q : Nat => base ≤ q) s.heap H locs)
    {n : Int32} {N' t0 : Nat} {cA : ClassId} (ht : (zTy cy)[t0]? = some (cA, .object C)) (he : ∀ q, zE cy (zNew w q k N') q = .inl (cA, N', .inr (.inr (.inr (.inr (fun _ => none)))))) (hn : ¬ n < 0) (hN : n.toNatClampNeg = N') (hbytes : N' * 4 ≤ 536870912) (hcells : cells + 1 ≤ R.cells) (hslots : slots + N' ≤ R.slots) (hdg : decode cc pc = .ok (.anewarray index, 3))
    (kk : ∀ (q : Nat) (H1 : Heap), zK w q = 0 → zH D cy base (zNew w q k N') H1 → va_S (fun q : Nat => base ≤ q) s.heap H1 locs →
      W p l e R s m args below meth c H1 locs (cells + 1) (slots + N') Q (F0 m (pc + 3) ls (.ref q :: rest))) : W p l e R s m args below meth c H locs cells slots Q (F0 m pc ls (.int n :: rest)) := by
  subst hN
  have hbs : base ≤ H.size := Nat.le_trans hA.1 hS.1
  obtain ⟨kA0, comp0, -, -, -, h2⟩ := (hA.2.1.2 t0 _ ht).2
  refine W.anew hx hb hown hclink (va_AO.use hover) rfl hdg rfl hn hbytes hcells hslots fun cA9 kA comp f1 f2 f3 f4 => ?_
  have hcA : cA9 = cA := Option.some.inj (f1.symm.trans h2)
  subst hcA
  generalize hH1 : H.push ({ cls := cA9, slots := Array.replicate n.toNatClampNeg .null, vm := .none } : Cell) = H1
  have z1 : H1.size = H.size + 1 := by rw [← hH1, Array.size_push]
  have e1 : H1[H.size]? = some (arrV cA9 n.toNatClampNeg (fun _ => .null)) := by rw [← hH1, Array.getElem?_push_size, ← arrV_new]
  have o1 : ∀ q : Nat, q < H.size → H1[q]? = H[q]? := fun q hq => by rw [← hH1, Array.getElem?_push, if_neg (Nat.ne_of_lt hq)]
  obtain ⟨g1, g2⟩ := zH_new (k := k) (n := n.toNatClampNeg) (H1 := H1) hH rfl hbs (by rw [he]; show H1[H.size]? = some (vp_cell _ _); rw [vp_cell_q]; exact e1) o1
  exact kk H.size H1 g2 g1 ⟨Nat.le_trans hS.1 (by omega), fun x h1 h2 => (o1 x (Nat.lt_of_lt_of_le h1 hS.1)).trans (hS.2.1 x h1 h2), hS.2.2⟩
/-! calls that return -/
theorem z_calli {S : Type} {HB : S → Heap → Prop} {post : Int32 → S → Prop} {mc ms : Nat} {a : Array Value} (hr : va_Run p l e R s m args below meth c H locs cells slots mc ms (F0 m pc ls st0) rest (zQi base HB post a) (fun q => base ≤ q)) (hS : va_S (fun q : Nat => base ≤ q) H0 H locs)
    (kk : ∀ (r : Int32) (u : S) (H1 : Heap) (locs1 : List Loc), post r u → HB u H1 → H.size ≤ H1.size → va_S (fun q : Nat => base ≤ q) H0 H1 locs1 → W p l e R s m args below meth c H1 locs1 (cells + mc) (slots + ms) Q (F0 m (pc + 3) ls (.int r :: rest))) : W p l e R s m args below meth c H locs cells slots Q (F0 m pc ls st0) :=
  va_calli (A0 := fun q : Nat => base ≤ q) hr hS (fun _ _ h => h) (fun _ h => h) (fun r u t H1 locs1 ht hvm hp hB hz hk hS1 => kk r u H1 locs1 hp (by rw [← ht]; exact hB) hz hS1)
theorem z_callv {S : Type} {HB : S → Heap → Prop} {post : S → Prop} {mc ms : Nat} {a : Array Value} (hr : va_Run p l e R s m args below meth c H locs cells slots mc ms (F0 m pc ls st0) rest (zQv base HB post a) (fun q => base ≤ q)) (hS : va_S (fun q : Nat => base ≤ q) H0 H locs)
    (kk : ∀ (u : S) (H1 : Heap) (locs1 : List Loc), post u → HB u H1 → H.size ≤ H1.size → va_S (fun q : Nat => base ≤ q) H0 H1 locs1 → W p l e R s m args below meth c H1 locs1 (cells + mc) (slots + ms) Q (F0 m (pc + 3) ls rest)) : W p l e R s m args below meth c H locs cells slots Q (F0 m pc ls st0) :=
  va_callv (A0 := fun q : Nat => base ≤ q) hr hS (fun _ _ h => h) (fun _ h => h) (fun u t H1 locs1 ht hvm hp hB hz hk hS1 => kk u H1 locs1 hp (by rw [← ht]; exact hB) hz hS1)
/-! calls that return or throw -/
theorem z_xcalli {S SX : Type} {HB : S → Heap → Prop} {HX : SX → Heap → Prop} {post : Int32 → S → Prop} {px : String → SX → Prop} {mc ms : Nat} {a : Array Value} (hr : vx_Run p l e R s m args below meth c H locs cells slots mc ms (F0 m pc ls st0) rest (zQi base HB post a) (zXC base HX px) (fun q => base ≤ q)) (hS : va_S (fun q : Nat => base ≤ q) H0 H locs)
    (kx : ∀ (E : String) (ce : Cell) (q9 : Addr) (u : SX) (H1 : Heap) (locs1 : List Loc), px E u → HX u H1 → H.size ≤ H1.size → va_S (fun q : Nat => base ≤ q) H0 H1 locs1 → H1[q9]? = some ce → ce.vm = .none → s.vm.findClass E = some ce.cls → vx_W p l e R s m args below meth c H1 locs1 (cells + mc) (slots + ms) Q (F0 m pc ls rest) q9)
    (kk : ∀ (r : Int32) (u : S) (H1 : Heap) (locs1 : List Loc), post r u → HB u H1 → H.size ≤ H1.size → va_S (fun q : Nat => base ≤ q) H0 H1 locs1 → W p l e R s m args below meth c H1 locs1 (cells + mc) (slots + ms) Q (F0 m (pc + 3) ls (.int r :: rest))) : W p l e R s m args below meth c H locs cells slots Q (F0 m pc ls st0) := by
  intro T hT X
  rcases hr T hT X with ⟨v, st₀, t, T', L, h0, X', hL, e1, e2, ⟨⟨r, u, hv, hp, hb⟩, hF⟩, st⟩ | ⟨q, st₀, t, T', L, E, ce, h0, X', hL, e1, e2, ⟨⟨u, hp, hb⟩, hF⟩, hce, hcv, hcl, st⟩
  · cases hv
    obtain ⟨k1, k2, k3⟩ := vx_keep (A0 := fun q : Nat => base ≤ q) h0 e1 hS (fun _ _ h => h) (fun _ h => h) hL hF
    obtain ⟨t2, a1, b1⟩ := kk r u T'.heap (locs ++ L) hp (by rw [e1]; exact hb) k1 k3 T' rfl X'
    exact ⟨t2, st t2 a1, b1⟩
  · obtain ⟨k1, k2, k3⟩ := vx_keep (A0 := fun q : Nat => base ≤ q) h0 e1 hS (fun _ _ h => h) (fun _ h => h) hL hF
    obtain ⟨t2, a1, b1⟩ := kx E ce q u T'.heap (locs ++ L) hp (by rw [e1]; exact hb) k1 k3 (by rw [e1]; exact hce) hcv hcl T' rfl X'
    exact ⟨t2, st.trans a1, b1⟩
theorem z_xcallv {S SX : Type} {HB : S → Heap → Prop} {HX : SX → Heap → Prop} {post : S → Prop} {px : String → SX → Prop} {mc ms : Nat} {a : Array Value} (hr : vx_Run p l e R s m args below meth c H locs cells slots mc ms (F0 m pc ls st0) rest (zQv base HB post a) (zXC base HX px) (fun q => base ≤ q)) (hS : va_S (fun q : Nat => base ≤ q) H0 H locs)
    (kx : ∀ (E : String) (ce : Cell) (q9 : Addr) (u : SX) (H1 : Heap) (locs1 : List Loc), px E u → HX u H1 → H.size ≤ H1.size → va_S (fun q : Nat => base ≤ q) H0 H1 locs1 → H1[q9]? = some ce → ce.vm = .none → s.vm.findClass E = some ce.cls → vx_W p l e R s m args below meth c H1 locs1 (cells + mc) (slots + ms) Q (F0 m pc ls rest) q9)
    (kk : ∀ (u : S) (H1 : Heap) (locs1 : List Loc), post u → HB u H1 → H.size ≤ H1.size → va_S (fun q : Nat => base ≤ q) H0 H1 locs1 → W p l e R s m args below meth c H1 locs1 (cells + mc) (slots + ms) Q (F0 m (pc + 3) ls rest)) : W p l e R s m args below meth c H locs cells slots Q (F0 m pc ls st0) := by
  intro T hT X
  rcases hr T hT X with ⟨v, st₀, t, T', L, h0, X', hL, e1, e2, ⟨⟨u, hv, hp, hb⟩, hF⟩, st⟩ | ⟨q, st₀, t, T', L, E, ce, h0, X', hL, e1, e2, ⟨⟨u, hp, hb⟩, hF⟩, hce, hcv, hcl, st⟩
  · cases hv
    obtain ⟨k1, k2, k3⟩ := vx_keep (A0 := fun q : Nat => base ≤ q) h0 e1 hS (fun _ _ h => h) (fun _ h => h) hL hF
    obtain ⟨t2, a1, b1⟩ := kk u T'.heap (locs ++ L) hp (by rw [e1]; exact hb) k1 k3 T' rfl X'
    exact ⟨t2, st t2 a1, b1⟩
  · obtain ⟨k1, k2, k3⟩ := vx_keep (A0 := fun q : Nat => base ≤ q) h0 e1 hS (fun _ _ h => h) (fun _ h => h) hL hF
    obtain ⟨t2, a1, b1⟩ := kx E ce q u T'.heap (locs ++ L) hp (by rw [e1]; exact hb) k1 k3 (by rw [e1]; exact hce) hcv hcl T' rfl X'
    exact ⟨t2, st.trans a1, b1⟩
theorem z_xcallr {S SX : Type} {HB : S → Heap → Prop} {HX : SX → Heap → Prop} {post : Nat → S → Prop} {px : String → SX → Prop} {mc ms : Nat} {a : Array Value} (hr : vx_Run p l e R s m args below meth c H locs cells slots mc ms (F0 m pc ls st0) rest (zQr base HB post a) (zXC base HX px) (fun q => base ≤ q)) (hS : va_S (fun q : Nat => base ≤ q) H0 H locs)
    (kx : ∀ (E : String) (ce : Cell) (q9 : Addr) (u : SX) (H1 : Heap) (locs1 : List Loc), px E u → HX u H1 → H.size ≤ H1.size → va_S (fun q : Nat => base ≤ q) H0 H1 locs1 → H1[q9]? = some ce → ce.vm = .none → s.vm.findClass E = some ce.cls → vx_W p l e R s m args below meth c H1 locs1 (cells + mc) (slots + ms) Q (F0 m pc ls rest) q9)
    (kk : ∀ (r : Nat) (u : S) (H1 : Heap) (locs1 : List Loc), post r u → HB u H1 → H.size ≤ H1.size → va_S (fun q : Nat => base ≤ q) H0 H1 locs1 → W p l e R s m args below meth c H1 locs1 (cells + mc) (slots + ms) Q (F0 m (pc + 3) ls (.ref r :: rest))) : W p l e R s m args below meth c H locs cells slots Q (F0 m pc ls st0) := by
  intro T hT X
  rcases hr T hT X with ⟨v, st₀, t, T', L, h0, X', hL, e1, e2, ⟨⟨r, u, hv, hp, hb⟩, hF⟩, st⟩ | ⟨q, st₀, t, T', L, E, ce, h0, X', hL, e1, e2, ⟨⟨u, hp, hb⟩, hF⟩, hce, hcv, hcl, st⟩
  · cases hv
    obtain ⟨k1, k2, k3⟩ := vx_keep (A0 := fun q : Nat => base ≤ q) h0 e1 hS (fun _ _ h => h) (fun _ h => h) hL hF
    obtain ⟨t2, a1, b1⟩ := kk r u T'.heap (locs ++ L) hp (by rw [e1]; exact hb) k1 k3 T' rfl X'
    exact ⟨t2, st t2 a1, b1⟩
  · obtain ⟨k1, k2, k3⟩ := vx_keep (A0 := fun q : Nat => base ≤ q) h0 e1 hS (fun _ _ h => h) (fun _ h => h) hL hF
    obtain ⟨t2, a1, b1⟩ := kx E ce q u T'.heap (locs ++ L) hp (by rw [e1]; exact hb) k1 k3 (by rw [e1]; exact hce) hcv hcl T' rfl X'
    exact ⟨t2, st.trans a1, b1⟩
/-! ends -/
theorem z_iret {S : Type} {HB : S → Heap → Prop} {post : Int32 → S → Prop} {mc ms : Nat} {v : Int32} {u : S} (hx : p.tables.exec = Jvm.exec) (hb : c.code = cc) (hr : meth.sig.returnType = some .int) (hlocks : meth.locks = false) (hH : HB u H) (hS : va_S (fun q : Nat => base ≤ q) s.heap H locs) (hp : post v u) (hc : cells ≤ mc) (hs : slots ≤ ms) (hdg : decode cc pc = .ok (.ireturn, 1)) :
    W p l e R s m args below meth c H locs cells slots (MQ below (zQi base HB post) args s mc ms (fun q => base ≤ q)) (F0 m pc ls [.int v]) := by
  refine W.widen (k := mc) (n := ms) hc hs ?_
  exact W.iret (v := v) hx hb hr (fun t ht hW => ⟨⟨v, u, rfl, hp, show HB u t.heap by rw [ht]; exact hH⟩, hS.F ht⟩) hS.2.2 hdg hlocks
theorem z_zret {S : Type} {HB : S → Heap → Prop} {post : Int32 → S → Prop} {mc ms : Nat} {v : Int32} {u : S} (hx : p.tables.exec = Jvm.exec) (hb : c.code = cc) (hr : meth.sig.returnType = some .boolean) (hlocks : meth.locks = false) (hH : HB u H) (hS : va_S (fun q : Nat => base ≤ q) s.heap H locs) (hv : narrow .boolean (.int v) = .int v) (hp : post v u) (hc : cells ≤ mc) (hs : slots ≤ ms) (hdg : decode cc pc = .ok (.ireturn, 1)) :
    W p l e R s m args below meth c H locs cells slots (MQ below (zQi base HB post) args s mc ms (fun q => base ≤ q)) (F0 m pc ls [.int v]) := by
  refine W.widen (k := mc) (n := ms) hc hs ?_
  exact W.zret (v := v) hx hb hr hv (fun t ht hW => ⟨⟨v, u, rfl, hp, show HB u t.heap by rw [ht]; exact hH⟩, hS.F ht⟩) hS.2.2 hdg hlocks
theorem z_vret {S : Type} {HB : S → Heap → Prop} {post : S → Prop} {mc ms : Nat} {u : S} (hx : p.tables.exec = Jvm.exec) (hb : c.code = cc) (hr : meth.sig.returnType = none) (hlocks : meth.locks = false) (hH : HB u H) (hS : va_S (fun q : Nat => base ≤ q) s.heap H locs) (hp : post u) (hc : cells ≤ mc) (hs : slots ≤ ms) (hdg : decode cc pc = .ok (.return_, 1)) :
    W p l e R s m args below meth c H locs cells slots (MQ below (zQv base HB post) args s mc ms (fun q => base ≤ q)) (F0 m pc ls []) := by
  refine W.widen (k := mc) (n := ms) hc hs ?_
  exact W.vret hx hb hr (fun t ht hW => ⟨⟨u, rfl, hp, show HB u t.heap by rw [ht]; exact hH⟩, hS.F ht⟩) hS.2.2 hdg hlocks
theorem z_aret {S : Type} {HB : S → Heap → Prop} {post : Nat → S → Prop} {mc ms : Nat} {v : Nat} {u : S} {n9 : String} (hx : p.tables.exec = Jvm.exec) (hb : c.code = cc) (hr : meth.sig.returnType = some (.object n9)) (hlocks : meth.locks = false) (hH : HB u H) (hS : va_S (fun q : Nat => base ≤ q) s.heap H locs) (hp : post v u) (hc : cells ≤ mc) (hs : slots ≤ ms) (hdg : decode cc pc = .ok (.areturn, 1)) :
    W p l e R s m args below meth c H locs cells slots (MQ below (zQr base HB post) args s mc ms (fun q => base ≤ q)) (F0 m pc ls [.ref v]) := by
  refine W.widen (k := mc) (n := ms) hc hs ?_
  exact W.aret (v := .ref v) hx hb hr (Or.inl ⟨_, rfl⟩) (Or.inr ⟨_, rfl⟩) (fun t ht hW => ⟨⟨v, u, rfl, hp, show HB u t.heap by rw [ht]; exact hH⟩, hS.F ht⟩) hS.2.2 hdg hlocks
/-- a throw of the callee's leaves this method -/
theorem z_out {S : Type} {Qc : Array Value → State → Outcome → State → Prop} {HB : S → Heap → Prop} {px : String → S → Prop} {mc ms : Nat} {u : S} {E : String} {ce : Cell} {q : Addr} (htab : ∀ x ∈ c.exceptionTable.toList, False) (hlocks : meth.locks = false) (hH : HB u H) (hS : va_S (fun q : Nat => base ≤ q) s.heap H locs) (hce : H[q]? = some ce) (hv : ce.vm = .none) (hcl : s.vm.findClass E = some ce.cls) (hp : px E u) (hc : cells ≤ mc) (hs : slots ≤ ms) :
    vx_W p l e R s m args below meth c H locs cells slots (vx_MQ below Qc (zXC base HB px) args s mc ms (fun q => base ≤ q)) (F0 m pc ls rest) q :=
  vx_out (fun x hx => (htab x hx).elim) hlocks hce hv hcl (fun t ht _ => ⟨⟨u, hp, show HB u t.heap by rw [ht]; exact hH⟩, hS.F ht⟩) hS.2.2 hc hs
theorem zUp_fit : ∀ n ∈ zUp, Bundle.fit n = true := by
  intro n hn
  exact List.all_eq_true.mp (show zUp.all (fun n => Bundle.fit n) = true by decide +kernel) n hn
/-- a throw of this method's own -/
theorem z_throwS {Qc : Array Value → State → Outcome → State → Prop} {px : String → zW → Prop} {mc ms : Nat} (hx : p.tables.exec = Jvm.exec) (hb : c.code = cc) (hl : l.stackTraces = false) {own cls text : String} {ik is ic : Nat} (hown : s.vm.findClass own = some m.cls) (hcls : Bundle.fit cls = true)
    (hk : (Cond.classLink own ik cls).before args s = true) (hini : (Cond.initialized cls).before args s = true) (hA : zA D cy base s) (htx : (own, is, text) ∈ zTexts) (hat1 : ∀ w ∈ (vx_atS own ic cls zUp).filter goodWord, w.before args s = true) (hat2 : ∀ w ∈ (vx_atS own ic cls zUp).filter (fun w => !goodWord w), w ∈ zFace)
    (hgood : (Cond.classLink own ik cls :: Cond.initialized cls :: vx_atS own ic cls zUp).all vx_ot = true) (hH : zH D cy base w H) (hS : va_S (fun q : Nat => base ≤ q) s.heap H locs) (hsize : ls.size = c.maxLocals)
    (d0 : decode cc pc = .ok (.new ik, 3)) (d3 : decode cc (pc + 3) = .ok (.dup, 1)) (d4 : decode cc (pc + 4) = .ok (.ldc is, 2)) (d6 : decode cc (pc + 6) = .ok (.invokespecial ic, 3)) (d9 : decode cc (pc + 9) = .ok (.athrow, 1))
    (htab : ∀ x ∈ c.exceptionTable.toList, False) (hRf : 5 < R.frames) (hRl : (rest.map fun v => v.category).sum + 82 ≤ R.locals) (hRcells : cells + 1 ≤ R.cells) (hRslots : slots + 6 ≤ R.slots) (hlocks : meth.locks = false) (hp : px cls w) (hc : cells + 1 ≤ mc) (hs : slots + 6 ≤ ms) :
    W p l e R s m args below meth c H locs cells slots (vx_MQ below Qc (zXC base (zH D cy base) px) args s mc ms (fun q => base ≤ q)) (F0 m pc ls rest) := by
  obtain ⟨sa, hstr⟩ := hA.2.2.2.1 _ htx
  have hfc := hA.2.2.2.2.1
  have hf3 : ∀ w ∈ zFace, w.before args s = true := by
    intro w hw
    have h1 := List.all_eq_true.mp zFace_ok w hw
    rw [Bool.and_eq_true] at h1
    exact va_tabs h1.1 rfl (hfc w hw)
  refine vx_throwS (names := zUp) hx hb hl hown hcls zUp_fit hk hini hstr (vx_hat hat1 hat2 hf3) (fun w hw => List.all_eq_true.mp hgood w hw) hA.2.2.1.1 hA.2.2.1.2 hS hsize d0 d3 d4 d6 d9 (fun x hx => (htab x hx).elim) hRf hRl hRcells hRslots hlocks ?_ hS.2.2 hc hs
  intro t hvm hz hq
  refine ⟨⟨w, hp, fun a ha => ⟨(hH a ha).1, (hH a ha).2.kept (hq a (hH a ha).2.lt)⟩⟩, Nat.le_trans hS.1 hz, fun q h1 h2 => ?_⟩
  rw [hq q (Nat.lt_of_lt_of_le h1 hS.1)]
  exact hS.2.1 q h1 h2
end ZROWS2
