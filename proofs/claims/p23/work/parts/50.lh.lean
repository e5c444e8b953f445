/-! THE LAW'S WORLD: the class's object x with its state u.1, and the law's int rows r 0 .. r (n - 1) (0 people, 1 orders, 2 tools and courses, 3 offences, 4 numbers, 5 paid, 6 had) with their values u.2 -/
def lLen (f : Nat) : Nat := if f = 0 then 60 else if f = 1 then 32 else if f = 2 then 9 else if f = 3 then 60 else if f = 4 then 3 else if f = 5 then 6 else 24
theorem lLen_lt (f : Nat) : lLen f < 2 ^ 31 := by
  unfold lLen
  repeat' split
  all_goals decide
def lArr (w : zW) (r : Nat → Nat) (n : Nat) (A : mB) : Prop := (∀ f, f < n → zK w (r f) = 8 ∧ zN w (r f) = lLen f ∧ zR w (r f) = A f) ∧ (∀ f g, f < n → g < n → r f = r g → f = g)
abbrev lU : Type := mB × mB
def lH (D : va_G) (cy : Nat → ClassId) (base x : Nat) (r : Nat → Nat) (n : Nat) (u : lU) (H : Heap) : Prop := ∃ w : zW, zH D cy base w H ∧ Rep w x u.1 ∧ mJ u.1 ∧ lArr w r n u.2
theorem lArr_c {w u : zW} {r : Nat → Nat} {n : Nat} {A : mB} (h : lArr w r n A) (g : cFr w u) : lArr u r n A := by
  refine ⟨fun f hf => ?_, h.2⟩
  obtain ⟨a1, a2, a3⟩ := h.1 f hf
  obtain ⟨b1, b2, b3, -⟩ := g (r f) (Or.inr (Or.inl a1))
  exact ⟨b1.trans a1, b2.trans a2, b3.trans a3⟩
theorem lArr_set {w : zW} {r : Nat → Nat} {n f j : Nat} {A : mB} {v : Int32} (h : lArr w r n A) (hf : f < n) : lArr (zsR w (r f) j v) r n (z2 A f j v) := by
  refine ⟨fun g hg => ?_, h.2⟩
  obtain ⟨a1, a2, a3⟩ := h.1 g hg
  refine ⟨a1, a2, ?_⟩
  show z2 (zR w) (r f) j v (r g) = _
  by_cases e : g = f
  · subst e; unfold z2; rw [if_pos rfl, if_pos rfl, a3]
  · rw [z2_ne1 _ _ _ (fun z => e (h.2 g f hg hf z)), z2_ne1 _ _ _ e]; exact a3
theorem Rep_zsR {w : zW} {x a j : Nat} {v : Int32} {B : mB} (h : Rep w x B) (ha : zK w a = 8) : Rep (zsR w a j v) x B := by
  obtain ⟨ad, h1, h2, h3, h4, h5, h6, ⟨p1, p2, p3, p4⟩, h8, h9, h10⟩ := h
  refine ⟨ad, h1, h2, h3, h4, h5, h6, ⟨p1, p2, p3, fun i hi k hk => ?_⟩, h8, h9, h10⟩
  have k15 := (h4 i hi).2.2.2.2.2.2.2.1
  have e : ad 2 i ≠ a := fun e => by rw [e, ha] at k15; exact absurd k15 (by decide)
  exact (congrFun (z2_ne1 (zR w) j v e) k).trans (p4 i hi k hk)
theorem Rep_old {w w' : zW} {x : Nat} {B : mB} (h : Rep w x B) (o : zOld w w') : Rep w' x B := by
  obtain ⟨ad, h⟩ := h; exact ⟨ad, ra_old h o⟩
theorem lArr_old {w w' : zW} {r : Nat → Nat} {n : Nat} {A : mB} (h : lArr w r n A) (o : zOld w w') : lArr w' r n A := by
  refine ⟨fun f hf => ?_, h.2⟩
  obtain ⟨a1, a2, a3⟩ := h.1 f hf
  obtain ⟨b1, b2, b3, b4, b5, b6, b7⟩ := o (r f) (zk0 a1 (by decide))
  exact ⟨b1.trans a1, b4.trans a2, b5.trans a3⟩
/-- only the rows that are there are told -/
theorem lH_rows {D : va_G} {cy : Nat → ClassId} {base x : Nat} {r : Nat → Nat} {n : Nat} {B A A' : mB} {H : Heap} (h : lH D cy base x r n (B, A) H) (e : ∀ f, f < n → A' f = A f) : lH D cy base x r n (B, A') H := by
  obtain ⟨w, h1, h2, h3, h4, h5⟩ := h
  refine ⟨w, h1, h2, h3, fun f hf => ?_, h5⟩
  obtain ⟨a1, a2, a3⟩ := h4 f hf
  exact ⟨a1, a2, a3.trans (e f hf).symm⟩
theorem lH_cut {D : va_G} {cy : Nat → ClassId} {base x : Nat} {r r' : Nat → Nat} {n n' : Nat} {u : lU} {H : Heap} (h : lH D cy base x r n u H) (hn : n' ≤ n) (e : ∀ f, f < n' → r' f = r f) : lH D cy base x r' n' u H := by
  obtain ⟨w, h1, h2, h3, h4, h5⟩ := h
  refine ⟨w, h1, h2, h3, fun f hf => ?_, fun f g hf hg z => ?_⟩
  · rw [e f hf]; exact h4 f (Nat.lt_of_lt_of_le hf hn)
  · rw [e f hf, e g hg] at z; exact h5 f g (Nat.lt_of_lt_of_le hf hn) (Nat.lt_of_lt_of_le hg hn) z
/-- a start that has the law's script b too -/
def zPs {S : Type} (D : va_G) (cy : Nat → ClassId) (base : Nat) (HB : S → Heap → Prop) (As : List Value) (u : S) (b L : Nat) (xs : Nat → Int32) : Array Value → State → Prop := fun a U => zPc D cy base HB As u a U ∧ va_X b L xs U U.heap ∧ b < U.heap.size ∧ b < base
theorem zPs_blind {S : Type} {D : va_G} {cy : Nat → ClassId} {base : Nat} {HB : S → Heap → Prop} {As : List Value} {u : S} {b L : Nat} {xs : Nat → Int32} : FrameBlind (zPs D cy base HB As u b L xs) := by
  intro a U g mk h
  obtain ⟨h1, h2, h3, h4⟩ := h
  exact ⟨zPc_blind a U g mk h1, va_X.moved (u := U) (Vm.Alike.refl _) h2, h3, h4⟩
section LROWS
variable {p : Program} {l : Launch} {e : Env} {R : Room} {s : State} {m : MethodId} {args : Array Value} {below : List Frame} {meth : Method} {c : Code} {H : Heap} {locs : List Loc} {cells slots : Nat} {Q : State → Prop} {cc : ByteArray} {pc : Nat} {ls : Array Slot} {rest : List Value} {D : va_G} {cy : Nat → ClassId} {base : Nat} {H0 : Heap} {x n : Nat} {r : Nat → Nat} {B A : mB}
/-- a value by another name -/
theorem lv_eqi {v v' : Int32} (h : v = v') (kk : W p l e R s m args below meth c H locs cells slots Q (F0 m pc ls (.int v' :: rest))) : W p l e R s m args below meth c H locs cells slots Q (F0 m pc ls (.int v :: rest)) := by
  subst h; exact kk
theorem z_preSs {S : Type} {HB : S → Heap → Prop} {As : List Value} {u : S} {b L : Nat} {xs : Nat → Int32} (hA : zA D cy base s) (hS : va_S (fun q : Nat => base ≤ q) s.heap H locs) (hH : HB u H) (hX : va_X b L xs s s.heap) (hbl : b < s.heap.size) (hbb : b < base) : PreS s H (zPs D cy base HB As u b L xs) As :=
  ⟨zPs_blind, fun U hU hW => ⟨⟨rfl, zA_go hS hU hW hA, by rw [hU]; exact hH⟩, va_X.moved hW.alike (by rw [hU]; exact va_X.kept hX (hS.2.1 b hbl (Nat.not_le.mpr hbb))), by rw [hU]; exact Nat.lt_of_lt_of_le hbl hS.1, hbb⟩⟩
theorem l_recv (hA : zA D cy base s) (hH : lH D cy base x r n (B, A) H) : ∃ cell : Cell, H[x]? = some cell ∧ cell.vm.isStatics = false ∧ s.vm.findClass RX5 = some cell.cls := by
  obtain ⟨w, hH, ⟨ad, hR⟩, -⟩ := hH
  exact z_recv hA hH (zk0 hR.1.1.1 (by decide)) (zE_k6 hR.1.1.1) (q := (RX5, TX5, 6)) rfl
theorem l_iald {f : Nat} (hf : f < n) (hx : p.tables.exec = Jvm.exec) (hb : c.code = cc) (hA : zA D cy base s) (hH : lH D cy base x r n (B, A) H) {i v : Int32} (j : Nat) (hi : i = nI j) (hj : j < lLen f) (hv : A f j = v) (hdg : decode cc pc = .ok (.iaload, 1))
    (kk : W p l e R s m args below meth c H locs cells slots Q (F0 m (pc + 1) ls (.int v :: rest))) : W p l e R s m args below meth c H locs cells slots Q (F0 m pc ls (.int i :: .ref (r f) :: rest)) := by
  subst hv
  obtain ⟨w, hH, -, -, hL, -⟩ := hH
  obtain ⟨a1, a2, a3⟩ := hL f hf
  exact z_iald hx hb hA hH (zk0 a1 (by decide)) (by rw [zE_k8 a1, a2, a3]) j hi hj (lLen_lt f) rfl hdg kk
theorem l_iast {f : Nat} (hf : f < n) (hx : p.tables.exec = Jvm.exec) (hb : c.code = cc) (hA : zA D cy base s) (hH : lH D cy base x r n (B, A) H) (hS : va_S (fun q : Nat => base ≤ q) H0 H locs) {i v : Int32} (j : Nat) (hi : i = nI j) (hj : j < lLen f) (hdg : decode cc pc = .ok (.iastore, 1))
    (kk : ∀ (H1 : Heap) (locs1 : List Loc), lH D cy base x r n (B, z2 A f j v) H1 → va_S (fun q : Nat => base ≤ q) H0 H1 locs1 → W p l e R s m args below meth c H1 locs1 cells slots Q (F0 m (pc + 1) ls rest)) : W p l e R s m args below meth c H locs cells slots Q (F0 m pc ls (.int v :: .int i :: .ref (r f) :: rest)) := by
  obtain ⟨w, hH, hR, hJ, hL⟩ := hH
  obtain ⟨a1, a2, a3⟩ := hL.1 f hf
  refine z_iast hx hb hA hH hS (zk0 a1 (by decide)) (by rw [zE_k8 a1, a2, a3]) j hi hj (lLen_lt f) (w' := zsR w (r f) j v) (by rw [zst_8 a1, a2, a3]) (zsR_oth w (r f) j v) (fun _ => rfl) hdg (fun H1 locs1 hH1 hS1 => kk H1 locs1 ⟨_, hH1, Rep_zsR hR a1, hJ, lArr_set hL hf⟩ hS1)
theorem l_newa (hx : p.tables.exec = Jvm.exec) (hb : c.code = cc) (harr : (Cond.arrayClass .int).before args s = true) (hA : zA D cy base s) (hH : lH D cy base x r n (B, A) H) (hS : va_S (fun q : Nat => base ≤ q) s.heap H locs) {v : Int32} (hz : A n = fun _ => 0) (hn : ¬ v < 0) (hN : v.toNatClampNeg = lLen n) (hcells : cells + 1 ≤ R.cells) (hslots : slots + lLen n ≤ R.slots) (hdg : decode cc pc = .ok (.newarray .int, 2))
    (kk : ∀ (r1 : Nat → Nat) (H1 : Heap), (∀ f, f < n → r1 f = r f) → lH D cy base x r1 (n + 1) (B, A) H1 → va_S (fun q : Nat => base ≤ q) s.heap H1 locs →
      W p l e R s m args below meth c H1 locs (cells + 1) (slots + lLen n) Q (F0 m (pc + 2) ls (.ref (r1 n) :: rest))) : W p l e R s m args below meth c H locs cells slots Q (F0 m pc ls (.int v :: rest)) := by
  obtain ⟨w, hH, hR, hJ, hL⟩ := hH
  have hb4 : lLen n * componentBytes .int ≤ 536870912 := by
    have h60 : lLen n ≤ 60 := by unfold lLen; repeat' split
                                 all_goals decide
    show lLen n * 4 ≤ 536870912
    omega
  refine z_newa (atype := .int) (ty := .int) (k := 8) (t0 := 0) (N' := lLen n) (a0 := (lLen n, .inl (fun _ => 0))) hx hb harr rfl hA hH hS rfl rfl rfl (fun q => znew_a8 q (lLen n)) hn hN hb4 hcells hslots hdg (fun q H1 hq hH1 hS1 => ?_)
  have o := zOld_N (k := 8) (n := lLen n) (zOld_rf w) hq
  have nq := zNew_new (w := w) (q := q) (k := 8) (n := lLen n)
  have hLo := lArr_old hL o
  have hqr : ∀ f, f < n → r f ≠ q := fun f hf e => by
    have := (hL.1 f hf).1
    rw [e, hq] at this
    exact absurd this (by decide)
  have e1 : ∀ f, f < n → (if f = n then q else r f) = r f := fun f hf => if_neg (by omega)
  have kk1 := kk (fun f => if f = n then q else r f) H1 e1 ⟨_, hH1, Rep_old hR o, hJ, fun f hf => ?_, fun f g hf hg z => ?_⟩ hS1
  · rw [if_pos rfl] at kk1; exact kk1
  · show zK _ (if f = n then q else r f) = 8 ∧ zN _ (if f = n then q else r f) = lLen f ∧ zR _ (if f = n then q else r f) = A f
    by_cases e : f = n
    · subst e; rw [if_pos rfl]; exact ⟨nq.1, nq.2.2.2.1, by rw [hz]; funext i; exact nq.2.2.2.2.1 i⟩
    · rw [if_neg e]; exact hLo.1 f (by omega)
  · have z' : (if f = n then q else r f) = (if g = n then q else r g) := z
    by_cases e : f = n
    · by_cases e' : g = n
      · omega
      · rw [if_pos e, if_neg e'] at z'; exact absurd z'.symm (hqr g (by omega))
    · by_cases e' : g = n
      · rw [if_neg e, if_pos e'] at z'; exact absurd z' (hqr f (by omega))
      · rw [if_neg e, if_neg e'] at z'; exact hL.2 f g (by omega) (by omega) z'
/-- a loop of N rounds at its head, its room growing with the rounds -/
theorem z_forc {S : Type} {HB : S → Heap → Prop} {nL : Nat} (N : Nat) (I : Nat → S → Prop) (loc : Nat → S → List (Nat × Value)) (c0 cc0 s0 ss0 : Nat) {u : S} (hI : I 0 u) (hH : HB u H) (hS : va_S (fun q : Nat => base ≤ q) s.heap H locs) (hl : lv_has ls nL (loc 0 u)) (hc : cells ≤ c0) (hs : slots ≤ s0)
    (hend : ∀ (u : S) (H : Heap) (locs : List Loc) (ls : Array Slot), I N u → HB u H → va_S (fun q : Nat => base ≤ q) s.heap H locs → lv_has ls nL (loc N u) → W p l e R s m args below meth c H locs (c0 + cc0 * N) (s0 + ss0 * N) Q (F0 m pc ls []))
    (hstep : ∀ k : Nat, k < N → (∀ (u : S) (H : Heap) (locs : List Loc) (ls : Array Slot) (cl sl : Nat), I (k + 1) u → HB u H → va_S (fun q : Nat => base ≤ q) s.heap H locs → lv_has ls nL (loc (k + 1) u) → cl ≤ c0 + cc0 * k + cc0 → sl ≤ s0 + ss0 * k + ss0 → W p l e R s m args below meth c H locs cl sl Q (F0 m pc ls [])) →
      ∀ (u : S) (H : Heap) (locs : List Loc) (ls : Array Slot), I k u → HB u H → va_S (fun q : Nat => base ≤ q) s.heap H locs → lv_has ls nL (loc k u) → W p l e R s m args below meth c H locs (c0 + cc0 * k) (s0 + ss0 * k) Q (F0 m pc ls [])) :
    W p l e R s m args below meth c H locs cells slots Q (F0 m pc ls []) := by
  have key : ∀ (n k : Nat), k + n = N → ∀ (u : S) (H : Heap) (locs : List Loc) (ls : Array Slot), I k u → HB u H → va_S (fun q : Nat => base ≤ q) s.heap H locs → lv_has ls nL (loc k u) → W p l e R s m args below meth c H locs (c0 + cc0 * k) (s0 + ss0 * k) Q (F0 m pc ls []) := by
    intro n
    induction n with
    | zero => intro k hk u H locs ls h1 h2 h3 h4; rw [Nat.add_zero] at hk; subst hk; exact hend u H locs ls h1 h2 h3 h4
    | succ n ih =>
      intro k hk u H locs ls h1 h2 h3 h4
      refine hstep k (by omega) (fun u H locs ls cl sl a b c d hcl hsl => ?_) u H locs ls h1 h2 h3 h4
      refine W.widen (k := c0 + cc0 * (k + 1)) (n := s0 + ss0 * (k + 1)) (by rw [Nat.mul_succ]; omega) (by rw [Nat.mul_succ]; omega) ?_
      exact ih (k + 1) (by omega) u H locs ls a b c d
  exact W.widen (k := c0 + cc0 * 0) (n := s0 + ss0 * 0) (by omega) (by omega) (key N 0 (by omega) u H locs ls hI hH hS hl)
end LROWS
theorem as_aux (vm : Vm) (n : Nat) (k : ClassId) : vm.assignableAux (n + 1) k k = true := by
  unfold Vm.assignableAux
  simp
theorem as_self (vm : Vm) (k : ClassId) : vm.assignable k k = true := as_aux vm 255 k
theorem castable_self {args : Array Value} {s : State} {E : String} {k : ClassId} (h : s.vm.findClass E = some k) : (Cond.castable E E).before args s = true := by
  simp [Cond.before, Cond.holds, Cond.value, h, as_self]
/-! a call of the class, seen from the law -/
section LCALLS
variable {l : Launch} {yy : MethodName} {ws : List Cond} {rm : Room} {D : va_G} {cy : Nat → ClassId} {base x n : Nat} {r : Nat → Nat} {As : List Value} {B B' A : mB} {cd an : Int32} {thr : String → Prop} {mc ms : Nat}
theorem l_conv (h : ∀ (w : zW) (ad : Nat → Nat → Nat), rAll w x ad B → mJ B → vx_Met l yy ws rm (zPc D cy base (zH D cy base) As w) (zQi base (zH D cy base) (fun (r0 : Int32) (u0 : zW) => cd = 0 ∧ r0 = an ∧ Rep u0 x B' ∧ cFr w u0)) (zXC base (zH D cy base) (fun (E : String) (u0 : zW) => thr E ∧ u0 = w)) mc ms (fun q => base ≤ q)) (hJ : mJ B → cd = 0 → mJ B') :
    vx_Met l yy ws rm (zPc D cy base (lH D cy base x r n) As (B, A)) (zQi base (lH D cy base x r n) (fun (r0 : Int32) (u0 : lU) => cd = 0 ∧ r0 = an ∧ u0 = (B', A))) (zXC base (lH D cy base x r n) (fun (E : String) (u0 : lU) => thr E ∧ u0 = (B, A))) mc ms (fun q => base ≤ q) := by
  intro p e ha hc hk s m args below hf happ hP hK
  obtain ⟨h1, h2, w, hH, ⟨ad, hR⟩, hJ0, hA⟩ := hP
  obtain ⟨k, o, g1, g2, g3, g4⟩ := h w ad hR hJ0 p e ha hc hk s m args below hf happ ⟨h1, h2, hH⟩ hK
  refine ⟨k, o, g1, g2, g3, ?_⟩
  rcases g4 with ⟨⟨⟨v, u, e1, ⟨c0, e2, hRp, hF⟩, hb⟩, hF9⟩, hL⟩ | ⟨q, e1, E, ce, L, ⟨⟨u, ⟨ht, hu⟩, hb⟩, hF9⟩, h9⟩
  · exact Or.inl ⟨⟨⟨v, (B', A), e1, ⟨c0, e2, rfl⟩, u, hb, hRp, hJ hJ0 c0, lArr_c hA hF⟩, hF9⟩, hL⟩
  · subst hu
    exact Or.inr ⟨q, e1, E, ce, L, ⟨⟨(B, A), ⟨ht, rfl⟩, u, hb, ⟨ad, hR⟩, hJ0, hA⟩, hF9⟩, h9⟩
/-- one that can't throw -/
theorem l_convN (h : ∀ (w : zW) (ad : Nat → Nat → Nat), rAll w x ad B → mJ B → vx_Met l yy ws rm (zPc D cy base (zH D cy base) As w) (zQi base (zH D cy base) (fun (r0 : Int32) (u0 : zW) => cd = 0 ∧ r0 = an ∧ Rep u0 x B' ∧ cFr w u0)) (zXC base (zH D cy base) (fun (E : String) (u0 : zW) => thr E ∧ u0 = w)) mc ms (fun q => base ≤ q)) (hJ : mJ B → cd = 0 → mJ B') (hcd : cd = 0) (ht : ∀ E, thr E → ¬ cd = 0) :
    Met l yy ws rm (zPc D cy base (lH D cy base x r n) As (B, A)) (zQi base (lH D cy base x r n) (fun (r0 : Int32) (u0 : lU) => r0 = an ∧ u0 = (B', A))) mc ms (fun q => base ≤ q) := by
  intro p e ha hc hk s m args below hf happ hP hK
  obtain ⟨h1, h2, w, hH, ⟨ad, hR⟩, hJ0, hA⟩ := hP
  obtain ⟨k, o, g1, g2, g3, g4⟩ := h w ad hR hJ0 p e ha hc hk s m args below hf happ ⟨h1, h2, hH⟩ hK
  refine ⟨k, o, g1, g2, g3, ?_⟩
  rcases g4 with ⟨⟨⟨v, u, e1, ⟨c0, e2, hRp, hF⟩, hb⟩, hF9⟩, hL⟩ | ⟨q, e1, E, ce, L, ⟨⟨u, ⟨hte, hu⟩, hb⟩, hF9⟩, h9⟩
  · exact ⟨⟨⟨v, (B', A), e1, ⟨e2, rfl⟩, u, hb, hRp, hJ hJ0 c0, lArr_c hA hF⟩, hF9⟩, hL⟩
  · exact absurd hcd (ht E hte)
end LCALLS
