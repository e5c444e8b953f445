section
-- ===== PART A: goes FIRST, ahead of the names: the tables' words, and 'selects' of the private methods out of them =====
/-- a private method of a class that the tables say can be made, by its rows of tables_1 -/
def lw_okq (q : MethodName × Nat) : Prop := (q.1.cls ≠ "java/lang/invoke/MethodHandle" ∧ q.1.cls ≠ "java/lang/invoke/VarHandle") ∧ Cond.instantiable q.1.cls q.2 ∈ tables_1 ∧ Cond.privateMethod q.1 ∈ tables_1 ∧ Cond.instanceMethod q.1 ∈ tables_1
theorem lw_p0 : lw_okq (⟨"java/lang/Throwable", "fillInStackTrace", "(I)Ljava/lang/Throwable;"⟩, 6) := ⟨⟨by decide +kernel, by decide +kernel⟩, List.mem_of_getElem? (i := 114) (by decide +kernel), List.mem_of_getElem? (i := 112) (by decide +kernel), List.mem_of_getElem? (i := 113) (by decide +kernel)⟩
theorem lw_p1 : lw_okq (⟨"ParoleCards", "findPerson", "(I)LParoleCards$Person;"⟩, 6) := ⟨⟨by decide +kernel, by decide +kernel⟩, List.mem_of_getElem? (i := 16) (by decide +kernel), List.mem_of_getElem? (i := 246) (by decide +kernel), List.mem_of_getElem? (i := 247) (by decide +kernel)⟩
theorem lw_p2 : lw_okq (⟨"ParoleCards", "findTools", "(I)LParoleCards$ToolKind;"⟩, 6) := ⟨⟨by decide +kernel, by decide +kernel⟩, List.mem_of_getElem? (i := 16) (by decide +kernel), List.mem_of_getElem? (i := 389) (by decide +kernel), List.mem_of_getElem? (i := 390) (by decide +kernel)⟩
theorem lw_p3 : lw_okq (⟨"ParoleCards", "findOrder", "(I)LParoleCards$Order;"⟩, 6) := ⟨⟨by decide +kernel, by decide +kernel⟩, List.mem_of_getElem? (i := 16) (by decide +kernel), List.mem_of_getElem? (i := 448) (by decide +kernel), List.mem_of_getElem? (i := 449) (by decide +kernel)⟩
theorem lw_p4 : lw_okq (⟨"ParoleCards", "workInTheShop", "()V"⟩, 6) := ⟨⟨by decide +kernel, by decide +kernel⟩, List.mem_of_getElem? (i := 16) (by decide +kernel), List.mem_of_getElem? (i := 557) (by decide +kernel), List.mem_of_getElem? (i := 558) (by decide +kernel)⟩
theorem lw_p5 : lw_okq (⟨"ParoleCards", "letGoThoseDue", "()I"⟩, 6) := ⟨⟨by decide +kernel, by decide +kernel⟩, List.mem_of_getElem? (i := 16) (by decide +kernel), List.mem_of_getElem? (i := 574) (by decide +kernel), List.mem_of_getElem? (i := 575) (by decide +kernel)⟩
theorem lw_p6 : lw_okq (⟨"ParoleCardsModel", "fails", "(I)Z"⟩, 28) := ⟨⟨by decide +kernel, by decide +kernel⟩, List.mem_of_getElem? (i := 591) (by decide +kernel), List.mem_of_getElem? (i := 694) (by decide +kernel), List.mem_of_getElem? (i := 695) (by decide +kernel)⟩
theorem lw_p7 : lw_okq (⟨"ParoleCardsModel", "isPerson", "(I)Z"⟩, 28) := ⟨⟨by decide +kernel, by decide +kernel⟩, List.mem_of_getElem? (i := 591) (by decide +kernel), List.mem_of_getElem? (i := 702) (by decide +kernel), List.mem_of_getElem? (i := 703) (by decide +kernel)⟩
theorem lw_p8 : lw_okq (⟨"ParoleCardsModel", "raises", "(I)V"⟩, 28) := ⟨⟨by decide +kernel, by decide +kernel⟩, List.mem_of_getElem? (i := 591) (by decide +kernel), List.mem_of_getElem? (i := 706) (by decide +kernel), List.mem_of_getElem? (i := 707) (by decide +kernel)⟩
theorem lw_p9 : lw_okq (⟨"ParoleCardsModel", "releaseOf", "(I)I"⟩, 28) := ⟨⟨by decide +kernel, by decide +kernel⟩, List.mem_of_getElem? (i := 591) (by decide +kernel), List.mem_of_getElem? (i := 710) (by decide +kernel), List.mem_of_getElem? (i := 711) (by decide +kernel)⟩
theorem lw_p10 : lw_okq (⟨"ParoleCardsModel", "gains", "(I)I"⟩, 28) := ⟨⟨by decide +kernel, by decide +kernel⟩, List.mem_of_getElem? (i := 591) (by decide +kernel), List.mem_of_getElem? (i := 714) (by decide +kernel), List.mem_of_getElem? (i := 715) (by decide +kernel)⟩
theorem lw_p11 : lw_okq (⟨"ParoleCardsModel", "loses", "(I)I"⟩, 28) := ⟨⟨by decide +kernel, by decide +kernel⟩, List.mem_of_getElem? (i := 591) (by decide +kernel), List.mem_of_getElem? (i := 718) (by decide +kernel), List.mem_of_getElem? (i := 719) (by decide +kernel)⟩
theorem lw_p12 : lw_okq (⟨"ParoleCardsModel", "of", "([II)I"⟩, 28) := ⟨⟨by decide +kernel, by decide +kernel⟩, List.mem_of_getElem? (i := 591) (by decide +kernel), List.mem_of_getElem? (i := 742) (by decide +kernel), List.mem_of_getElem? (i := 743) (by decide +kernel)⟩
theorem lw_p13 : lw_okq (⟨"ParoleCardsModel", "out", "(I)I"⟩, 28) := ⟨⟨by decide +kernel, by decide +kernel⟩, List.mem_of_getElem? (i := 591) (by decide +kernel), List.mem_of_getElem? (i := 757) (by decide +kernel), List.mem_of_getElem? (i := 758) (by decide +kernel)⟩
theorem lw_p14 : lw_okq (⟨"ParoleCardsModel", "isOrder", "(I)Z"⟩, 28) := ⟨⟨by decide +kernel, by decide +kernel⟩, List.mem_of_getElem? (i := 591) (by decide +kernel), List.mem_of_getElem? (i := 773) (by decide +kernel), List.mem_of_getElem? (i := 774) (by decide +kernel)⟩
theorem lw_p15 : lw_okq (⟨"ParoleCardsModel", "rest", "(I)I"⟩, 28) := ⟨⟨by decide +kernel, by decide +kernel⟩, List.mem_of_getElem? (i := 591) (by decide +kernel), List.mem_of_getElem? (i := 797) (by decide +kernel), List.mem_of_getElem? (i := 798) (by decide +kernel)⟩
def lw_privs_1 : List (MethodName × Nat) := [(⟨"java/lang/Throwable", "fillInStackTrace", "(I)Ljava/lang/Throwable;"⟩, 6), (⟨"ParoleCards", "findPerson", "(I)LParoleCards$Person;"⟩, 6), (⟨"ParoleCards", "findTools", "(I)LParoleCards$ToolKind;"⟩, 6), (⟨"ParoleCards", "findOrder", "(I)LParoleCards$Order;"⟩, 6), (⟨"ParoleCards", "workInTheShop", "()V"⟩, 6), (⟨"ParoleCards", "letGoThoseDue", "()I"⟩, 6), (⟨"ParoleCardsModel", "fails", "(I)Z"⟩, 28), (⟨"ParoleCardsModel", "isPerson", "(I)Z"⟩, 28), (⟨"ParoleCardsModel", "raises", "(I)V"⟩, 28), (⟨"ParoleCardsModel", "releaseOf", "(I)I"⟩, 28), (⟨"ParoleCardsModel", "gains", "(I)I"⟩, 28), (⟨"ParoleCardsModel", "loses", "(I)I"⟩, 28), (⟨"ParoleCardsModel", "of", "([II)I"⟩, 28), (⟨"ParoleCardsModel", "out", "(I)I"⟩, 28), (⟨"ParoleCardsModel", "isOrder", "(I)Z"⟩, 28), (⟨"ParoleCardsModel", "rest", "(I)I"⟩, 28)]
theorem lw_r1 : ∀ q ∈ lw_privs_1, lw_okq q := List.forall_mem_cons.mpr ⟨lw_p0, List.forall_mem_cons.mpr ⟨lw_p1, List.forall_mem_cons.mpr ⟨lw_p2, List.forall_mem_cons.mpr ⟨lw_p3, List.forall_mem_cons.mpr ⟨lw_p4, List.forall_mem_cons.mpr ⟨lw_p5, List.forall_mem_cons.mpr ⟨lw_p6, List.forall_mem_cons.mpr ⟨lw_p7, List.forall_mem_cons.mpr ⟨lw_p8, List.forall_mem_cons.mpr ⟨lw_p9, List.forall_mem_cons.mpr ⟨lw_p10, List.forall_mem_cons.mpr ⟨lw_p11, List.forall_mem_cons.mpr ⟨lw_p12, List.forall_mem_cons.mpr ⟨lw_p13, List.forall_mem_cons.mpr ⟨lw_p14, List.forall_mem_cons.mpr ⟨lw_p15, fun _ h => absurd h List.not_mem_nil⟩⟩⟩⟩⟩⟩⟩⟩⟩⟩⟩⟩⟩⟩⟩⟩
theorem lw_p16 : lw_okq (⟨"ParoleCardsModel", "works", "(I)V"⟩, 28) := ⟨⟨by decide +kernel, by decide +kernel⟩, List.mem_of_getElem? (i := 591) (by decide +kernel), List.mem_of_getElem? (i := 813) (by decide +kernel), List.mem_of_getElem? (i := 814) (by decide +kernel)⟩
theorem lw_p17 : lw_okq (⟨"ParoleCardsModel", "goes", "(I)I"⟩, 28) := ⟨⟨by decide +kernel, by decide +kernel⟩, List.mem_of_getElem? (i := 591) (by decide +kernel), List.mem_of_getElem? (i := 817) (by decide +kernel), List.mem_of_getElem? (i := 818) (by decide +kernel)⟩
def lw_privs_2 : List (MethodName × Nat) := [(⟨"ParoleCardsModel", "works", "(I)V"⟩, 28), (⟨"ParoleCardsModel", "goes", "(I)I"⟩, 28)]
theorem lw_r2 : ∀ q ∈ lw_privs_2, lw_okq q := List.forall_mem_cons.mpr ⟨lw_p16, List.forall_mem_cons.mpr ⟨lw_p17, fun _ h => absurd h List.not_mem_nil⟩⟩
def lw_privs : List (MethodName × Nat) := lw_privs_1 ++ (lw_privs_2)
def lw_tbl : List Cond := k2_sels lw_privs ++ tables_1
theorem lw_privs_ok : ∀ q ∈ lw_privs, lw_okq q := by
  show ∀ q ∈ lw_privs_1 ++ (lw_privs_2), lw_okq q
  exact List.forall_mem_append.mpr ⟨lw_r1, lw_r2⟩
-- ===== end of PART A; then your names; then what follows =====
end
section
/-! ===== BEGIN words of one list among another's, by their places ===== -/
theorem goodIn_r {big : List Cond} (ws : List Cond) (ps : List Nat) (hp : ws = ps.filterMap (fun i => big[i]?)) (h : ws.all goodWord = true) : GoodIn big ws := by
  intro w hw
  have h1 := List.all_eq_true.mp h w hw
  rw [hp] at hw
  obtain ⟨i, -, hi⟩ := List.mem_filterMap.mp hw
  have hm : w ∈ big := by first | exact List.mem_of_getElem? hi | exact List.getElem?_mem hi
  exact ⟨hm, good_of_word h1⟩
theorem goodIn_app {big a b : List Cond} (ha : GoodIn big a) (hb : GoodIn big b) : GoodIn big (a ++ b) := fun w h => (List.mem_append.mp h).elim (ha w) (hb w)
theorem goodIn_ca {big a b : List Cond} {c : Cond} (ha : GoodIn big (c :: a)) (hb : GoodIn big b) : GoodIn big (c :: (a ++ b)) := fun w h => (List.mem_cons.mp h).elim (fun e => ha w (List.mem_cons.mpr (Or.inl e))) (fun h => (List.mem_append.mp h).elim (fun h => ha w (List.mem_cons.mpr (Or.inr h))) (hb w))
theorem goodIn_sub {big ws : List Cond} (hm : ∀ w ∈ ws, w ∈ big) (h : ws.all goodWord = true) : GoodIn big ws := fun w hw => ⟨hm w hw, good_of_word (List.all_eq_true.mp h w hw)⟩
/-! ===== END ===== -/

/-! ===== BEGIN exceptions that leave a method, and their catching by the caller (launches without stack traces) ===== -/
section VXA
/-! The laws vx_back, vx_callV, vx_callS, vx_callSW, vx_throw0, vx_throwS follow proofs of the library, with one case more: JvmDerived/Free/Laws.lean (Back.of_free), Shelf42/LK1.lean (callV, callS), Shelf/KitTraced.lean (throwNew0V, throwNewS). -/
/-- where a method has thrown q: the class by its name, the cell, what was written, the world -/
def vx_T (XC : String → State → State → Prop) (st : State) (q : Addr) (t : State) (mc ms : Nat) (free : Addr → Prop) : Prop :=
  ∃ (E : String) (ce : Cell) (L : List Loc), XC E st t ∧ t.heap[q]? = some ce ∧ ce.vm = .none ∧ st.vm.findClass E = some ce.cls ∧ st.WarmedH t.vm ∧ st.sameButNew ({ t with vm := st.vm } : State) L mc ms ∧ ∀ z ∈ L, free z.base
def vx_Q (Qc : Array Value → State → Outcome → State → Prop) (XC : String → State → State → Prop) (mc ms : Nat) (free : Addr → Prop) : Array Value → State → Outcome → State → Prop := fun a st o t =>
  (Qc a st o t ∧ ∃ L, FrameEnd st o t L mc ms ∧ ∀ q ∈ L, free q.base) ∨ ∃ q, o = .threw q ∧ vx_T XC st q t mc ms free
/-- a callee that returns or throws -/
def vx_Met (l : Launch) (y : MethodName) (ws : List Cond) (rm : Room) (Pc : Array Value → State → Prop) (Qc : Array Value → State → Outcome → State → Prop) (XC : String → State → State → Prop) (mc ms : Nat) (free : Addr → Prop) : Prop :=
  MetFree l y (headSpec ws rm) Pc (fun _ _ _ _ _ => True) (vx_Q Qc XC mc ms free)
def vx_Post (XC : String → State → State → Prop) (mc ms : Nat) (free : Addr → Prop) : Pt → Array Value → Addr → Pt → Prop := fun A a q B =>
  ∃ (g : JFrame) (mk : MethodId) (t : State) (L : List Loc) (E : String) (ce : Cell), B.U.heap = t.heap ∧ B.U.vm = t.vm ∧ XC E (A.U.calling g mk a) t ∧ t.heap[q]? = some ce ∧ ce.vm = .none ∧ A.U.vm.findClass E = some ce.cls ∧ B.locs = A.locs ++ L ∧ (∀ z ∈ L, free z.base) ∧ B.cells = A.cells + mc ∧ B.slots = A.slots + ms
def vx_Back (l : Launch) (R : Room) (p : Program) (e : Env) (below : List Frame) (s : State) (sargs : Array Value) (y : MethodName) (len W9 : Nat)
    (Pre : Pt → Array Value → Prop) (Post : Pt → Array Value → Option Value → Pt → Prop) (PostX : Pt → Array Value → Addr → Pt → Prop) : Prop :=
  ∀ (m : MethodId) (meth : Method) (c : Code) (A : Pt) (g : JFrame) (ig : Instr) (mk : MethodId) (a : Array Value),
    Stand p l e R s m sargs below meth c A.U A.locs A.cells A.slots → g.method = m → g.locals.size = c.maxLocals → decode c.code g.pc = .ok (ig, len) →
    2 * g.monitorRoom + (g.stack.map fun v => v.category).sum ≤ W9 → A.U.methodNamed? y = some mk → Pre A a →
    (∃ (v : Option Value) (B : Pt), Stand p l e R s m sargs below meth c B.U B.locs B.cells B.slots ∧ Post A a v B ∧
      Steps p.tables e below (doInvoke e (A.U.setTop g) [] mk a).1 (B.U.setTop { g with pc := g.pc + len, stack := v.toList ++ g.stack })) ∨
    (∃ (q : Addr) (B : Pt), Stand p l e R s m sargs below meth c B.U B.locs B.cells B.slots ∧ PostX A a q B ∧
      Steps p.tables e below (doInvoke e (A.U.setTop g) [] mk a).1 ((B.U.setTop g).pushFrame (.throwing q)))
section Payer
variable {l : Launch} {R : Room} {p : Program} {e : Env} {below : List Frame} {s : State} {sargs : Array Value} {y : MethodName} {len W9 : Nat}
theorem vx_back {ws : List Cond} {rm : Room} {Pc : Array Value → State → Prop} {Qc : Array Value → State → Outcome → State → Prop} {XC : String → State → State → Prop} {mc ms : Nat} {free : Addr → Prop} {bytes : ByteArray} {maxL : Nat} {ret : Option FieldType}
    (hM : vx_Met l y ws rm Pc Qc XC mc ms free) (hblind : FrameBlind Pc) (hrc : rm.cells = mc) (hrs : rm.slots = ms)
    (hframes : rm.frames + 1 ≤ R.frames) (hlocals : W9 + (maxL + 11) + rm.locals ≤ R.locals)
    (hws : ∀ w ∈ ws, ∀ a' U, s.WarmedH U.vm → w.before a' U = true) (hcode : Cond.code y bytes maxL ret ∈ ws) (hinit : ∀ a' U, s.WarmedH U.vm → (Cond.initialized y.cls).before a' U = true) :
    vx_Back l R p e below s sargs y len W9 (PreOf R mc ms Pc) (PostOf Qc mc ms free) (vx_Post XC mc ms free) := by
  intro m meth c A g ig mk a X hg hsize hdg hW hn hp
  have h1 : (headSpec ws rm).pre.before a A.U = true := atoms_intro fun w hw => hws w hw _ _ X.warmed
  have h2 : (Cond.code y bytes maxL ret).before a A.U = true := hws _ hcode _ _ X.warmed
  have h3 : (Cond.initialized y.cls).before a A.U = true := hinit _ _ X.warmed
  have h4 : A.cells + (headSpec ws rm).room.cells ≤ R.cells := by rw [show (headSpec ws rm).room.cells = mc from hrc]; exact hp.1
  have h5 : A.slots + (headSpec ws rm).room.slots ≤ R.slots := by rw [show (headSpec ws rm).room.slots = ms from hrs]; exact hp.2.1
  have hPc : Pc a (A.U.calling g mk a) := hblind _ _ _ _ hp.2.2
  obtain ⟨U, Ls, c0, s0⟩ := A
  dsimp only [Pt.U, Pt.locs, Pt.cells, Pt.slots] at h1 h2 h3 h4 h5 X hn hPc ⊢
  obtain ⟨methY, cY, hmY, hcY, -, hlY, -, -, -, -⟩ := Cond.code_spec hn h2
  obtain ⟨kY, hkY, -⟩ := className_of_methodNamed hn
  have hinitY : kY.init = .initialized := Cond.initialized_spec (findClass_of_methodNamed hn) hkY h3
  have h : At U g.method c below := by rw [hg]; exact X.here
  have hlocals9 : W9 + (maxL + 11) + (headSpec ws rm).room.locals ≤ R.locals := hlocals
  have happ : (headSpec ws rm).appliesLoose y e.platform (U.calling g mk a) = true :=
    Spec.appliesLoose_calling (g := g) h hdg hn hkY hinitY
      (X.room_calling (g := g) (R' := (headSpec ws rm).room) hsize hmY hcY hframes (by rw [hlY]; omega) h4 h5) h1
  obtain ⟨mid, hmid⟩ := h.above
  have hfr : (U.setTop g).frames = (.java g :: mid) ++ below := by rw [State.frames_setTop' g h.top, hmid]; rfl
  obtain ⟨o, s₂, hsteps, -, hend, hq⟩ := Steps.callFree hM p X.admits X.cas X.clock (acts := []) hfr happ hPc trivial
  have hq' : vx_Q Qc XC mc ms free a (U.calling g mk a) o s₂ := hq
  rw [State.frames_setTop' g h.top] at hend
  obtain ⟨g₀, hg0⟩ := Option.isSome_iff_exists.mp h.top
  obtain ⟨r, hr⟩ := State.topJava?_eq_some.mp hg0
  have hr' : (({ U with heap := s₂.heap, slotsUsed := s₂.slotsUsed } : State).setVm s₂.vm).frames = .java g₀ :: r := hr
  rcases hq' with ⟨hqc, L, hfe, hL⟩ | ⟨q, rfl, E, ce, L, hx, hce, hcv, hcl, hW₂, hsm, hL⟩
  · obtain ⟨⟨v, rfl⟩, hW₂, e2, q2, q3, q4, q5, q6⟩ := id hfe
    have e3 : s₂ = ({ (U.calling g mk a).setFrames s₂.frames with heap := s₂.heap, slotsUsed := s₂.slotsUsed } : State).setVm s₂.vm := by
      have : s₂ = ({ s₂ with vm := (U.calling g mk a).vm } : State).setVm s₂.vm := rfl
      rw [e2] at this
      exact this
    obtain ⟨c₂, i₂, len₂, hc₂, hd₂, hf₂⟩ := hend
    have hW' : U.WarmedH s₂.vm := hW₂
    have hcc : c₂ = c := by
      have h1 : s₂.code? g.method = U.code? g.method := by
        rw [State.code?_eq, State.code?_eq, hW'.alike.method?]
      exact Option.some.inj (hc₂.symm.trans (h1.trans h.code))
    subst hcc
    have hlen : len₂ = len := by rw [hdg] at hd₂; cases hd₂; rfl
    subst hlen
    have hs₂ : s₂ = (({ U with heap := s₂.heap, slotsUsed := s₂.slotsUsed } : State).setVm s₂.vm).setTop { g with pc := g.pc + len₂, stack := v.toList ++ g.stack } := by
      refine e3.trans ?_
      rw [hf₂, State.calling_eq h.top, State.setFrames_setFrames, State.setTop_of_frames _ hr', hr]
      rfl
    have hsame : U.sameButNew ({ U with heap := s₂.heap, slotsUsed := s₂.slotsUsed } : State) L mc ms := by
      refine ⟨?_, q2, q3, q4, q5, q6⟩
      obtain ⟨t, ht, -⟩ := State.frames_cons hr
      show ({ U with heap := s₂.heap, slotsUsed := s₂.slotsUsed } : State) = { U.setFrames U.frames with heap := s₂.heap, slotsUsed := s₂.slotsUsed }
      rw [State.setFrames_self ht]
    subst hg
    refine Or.inl ⟨v, ⟨(({ U with heap := s₂.heap, slotsUsed := s₂.slotsUsed } : State).setVm s₂.vm), Ls ++ L, c0 + mc, s0 + ms⟩,
      ⟨X.admits, X.cas, X.clock, X.frames, X.room, X.hears, X.method, X.code, (X.here.setHeapUsed s₂.heap s₂.slotsUsed).setVm hW'.alike, X.tail, State.WarmedH.trans X.warmed hW', X.limits, X.bytes, X.same.trans (hsame.setVm s.vm)⟩,
      ⟨g, mk, s₂, L, rfl, rfl, hqc, rfl, hL, rfl, rfl⟩, ?_⟩
    show Steps p.tables e below _ ((({ U with heap := s₂.heap, slotsUsed := s₂.slotsUsed } : State).setVm s₂.vm).setTop { g with pc := g.pc + len₂, stack := v.toList ++ g.stack })
    rw [← hs₂]
    exact hsteps
  · obtain ⟨e2, q2, q3, q4, q5, q6⟩ := id hsm
    have e3 : s₂ = ({ (U.calling g mk a).setFrames s₂.frames with heap := s₂.heap, slotsUsed := s₂.slotsUsed } : State).setVm s₂.vm := by
      have : s₂ = ({ s₂ with vm := (U.calling g mk a).vm } : State).setVm s₂.vm := rfl
      rw [e2] at this
      exact this
    have hf₂ : s₂.frames = .throwing q :: .java g :: U.frames.tail := hend
    have hW' : U.WarmedH s₂.vm := hW₂
    have hs₂ : s₂ = ((({ U with heap := s₂.heap, slotsUsed := s₂.slotsUsed } : State).setVm s₂.vm).setTop g).pushFrame (.throwing q) := by
      refine e3.trans ?_
      rw [hf₂, State.calling_eq h.top, State.setFrames_setFrames, State.pushFrame, State.frames_setTop _ hr', State.setTop_of_frames _ hr', State.setFrames_setFrames, hr]
      rfl
    have hsame : U.sameButNew ({ U with heap := s₂.heap, slotsUsed := s₂.slotsUsed } : State) L mc ms := by
      refine ⟨?_, q2, q3, q4, q5, q6⟩
      obtain ⟨t, ht, -⟩ := State.frames_cons hr
      show ({ U with heap := s₂.heap, slotsUsed := s₂.slotsUsed } : State) = { U.setFrames U.frames with heap := s₂.heap, slotsUsed := s₂.slotsUsed }
      rw [State.setFrames_self ht]
    subst hg
    refine Or.inr ⟨q, ⟨(({ U with heap := s₂.heap, slotsUsed := s₂.slotsUsed } : State).setVm s₂.vm), Ls ++ L, c0 + mc, s0 + ms⟩,
      ⟨X.admits, X.cas, X.clock, X.frames, X.room, X.hears, X.method, X.code, (X.here.setHeapUsed s₂.heap s₂.slotsUsed).setVm hW'.alike, X.tail, State.WarmedH.trans X.warmed hW', X.limits, X.bytes, X.same.trans (hsame.setVm s.vm)⟩,
      ⟨g, mk, s₂, L, E, ce, rfl, rfl, hx, hce, hcv, hcl, rfl, hL, rfl, rfl⟩, ?_⟩
    show Steps p.tables e below _ (((({ U with heap := s₂.heap, slotsUsed := s₂.slotsUsed } : State).setVm s₂.vm).setTop g).pushFrame (.throwing q))
    rw [← hs₂]
    exact hsteps
end Payer
section Calls
variable {p : Program} {l : Launch} {e : Env} {R : Room} {s : State} {m : MethodId} {args : Array Value} {below : List Frame} {meth : Method} {c : Code} {T : State} {locs : List Loc} {cells slots : Nat}
theorem vx_callV (X : Stand p l e R s m args below meth c T locs cells slots) (hexec : p.tables.exec = Jvm.exec) {own C : String} {index : Nat} {y : MethodName} {bytes : ByteArray} {maxL : Nat} {ret : Option FieldType}
    (hown : s.vm.findClass own = some m.cls) (hlink : (Cond.methodLink own index y).before args s = true) (hinst : (Cond.instanceMethod y).before args s = true) (hsel : (Cond.selects C y y).before args s = true)
    (hcode : (Cond.code y bytes maxL ret).before args s = true) (hy : y.cls ≠ "java/lang/invoke/MethodHandle" ∧ y.cls ≠ "java/lang/invoke/VarHandle")
    {W9 : Nat} {Pre : Pt → Array Value → Prop} {Post : Pt → Array Value → Option Value → Pt → Prop} {PostX : Pt → Array Value → Addr → Pt → Prop} (hK : vx_Back l R p e below s args y 3 W9 Pre Post PostX)
    {b : Addr} {cellB : Cell} (hcell : T.heap[b]? = some cellB) (hobj : cellB.vm.isStatics = false) (hcls : s.vm.findClass C = some cellB.cls)
    {g : JFrame} (hg : g.method = m) (hsize : g.locals.size = c.maxLocals) {argsL rest : List Value} (hlen : ∀ sig, parseMethodDescriptor y.desc = some sig → argsL.length = sig.parameters.length)
    (hstack : g.stack = argsL.reverse ++ .ref b :: rest) (hW : 2 * g.monitorRoom + (rest.map fun v => v.category).sum ≤ W9) (hdg : decode c.code g.pc = .ok (.invokevirtual index, 3))
    (hpre : ∀ vm₁, s.WarmedH vm₁ → Pre ⟨T.setVm vm₁, locs, cells, slots⟩ (Value.ref b :: argsL).toArray) :
    (∃ (v : Option Value) (vm₁ : Vm) (B : Pt), s.WarmedH vm₁ ∧ Stand p l e R s m args below meth c B.U B.locs B.cells B.slots ∧ Post ⟨T.setVm vm₁, locs, cells, slots⟩ (Value.ref b :: argsL).toArray v B ∧
      ∀ target, Steps p.tables e below (B.U.setTop { g with pc := g.pc + 3, stack := v.toList ++ rest }) target → Steps p.tables e below (T.setTop g) target) ∨
    (∃ (q : Addr) (vm₁ : Vm) (B : Pt), s.WarmedH vm₁ ∧ Stand p l e R s m args below meth c B.U B.locs B.cells B.slots ∧ PostX ⟨T.setVm vm₁, locs, cells, slots⟩ (Value.ref b :: argsL).toArray q B ∧
      Steps p.tables e below (T.setTop g) ((B.U.setTop { g with stack := rest }).pushFrame (.throwing q))) := by
  obtain ⟨mk, methM, hnamed, hmethM, hstM, habM⟩ := Cond.instanceMethod_spec hinst
  obtain ⟨methM', cM, hmethM', -, -, -, -, -, -, hsigM⟩ := Cond.code_spec hnamed hcode
  cases hmethM.symm.trans hmethM'
  obtain ⟨c2, r2, m2, q1, q2, q3, q4, kP, hkP, hkPi⟩ := Cond.selects_spec hsel
  cases hcls.symm.trans q1
  cases (State.methodFound?_of_named hnamed hy).symm.trans q2
  cases hnamed.symm.trans q3
  have hselP : selectMethod e.platform s.vm cellB.cls mk = .method mk := by rw [Launch.admits_selectMethod X.admits]; exact q4
  obtain ⟨vm₁, X₁, hstep₁⟩ := X.invokevirtual hexec hown hlink hnamed hmethM hstM hkP hkPi hy (a := b) (cell := cellB) hcell
    (fun z h => by rw [h] at hobj; cases hobj) hselP hmethM habM hkP hkPi (g := g) hg (argsL := argsL) (rest := rest) (hlen _ hsigM) hstack hdg
  rcases hK m meth c ⟨T.setVm vm₁, locs, cells, slots⟩ { g with stack := rest } (.invokevirtual index) mk (Value.ref b :: argsL).toArray X₁ hg hsize hdg hW (X₁.named hnamed) (hpre vm₁ X₁.warmed) with ⟨v, B, X', hpost, hsteps⟩ | ⟨q, B, X', hpost, hsteps⟩
  · exact Or.inl ⟨v, vm₁, B, X₁.warmed, X', hpost, fun target h => hstep₁ _ fun acts => by rw [doInvoke_state]; exact hsteps.trans h⟩
  · exact Or.inr ⟨q, vm₁, B, X₁.warmed, X', hpost, hstep₁ _ fun acts => by rw [doInvoke_state]; exact hsteps⟩
theorem vx_callS (X : Stand p l e R s m args below meth c T locs cells slots) (hexec : p.tables.exec = Jvm.exec) {own : String} {index : Nat} {y : MethodName} {bytes : ByteArray} {maxL : Nat} {ret : Option FieldType}
    (hown : s.vm.findClass own = some m.cls) (hlink : (Cond.methodLink own index y).before args s = true) (hstat : (Cond.static y).before args s = true) (hinit : (Cond.initialized y.cls).before args s = true)
    (hcode : (Cond.code y bytes maxL ret).before args s = true) (hy : y.cls ≠ "java/lang/invoke/MethodHandle" ∧ y.cls ≠ "java/lang/invoke/VarHandle")
    {W9 : Nat} {Pre : Pt → Array Value → Prop} {Post : Pt → Array Value → Option Value → Pt → Prop} {PostX : Pt → Array Value → Addr → Pt → Prop} (hK : vx_Back l R p e below s args y 3 W9 Pre Post PostX)
    {g : JFrame} (hg : g.method = m) (hsize : g.locals.size = c.maxLocals) {argsL rest : List Value} (hlen : ∀ sig, parseMethodDescriptor y.desc = some sig → argsL.length = sig.parameters.length)
    (hstack : g.stack = argsL.reverse ++ rest) (hW : 2 * g.monitorRoom + (rest.map fun v => v.category).sum ≤ W9) (hdg : decode c.code g.pc = .ok (.invokestatic index, 3))
    (hpre : ∀ vm₁, s.WarmedH vm₁ → Pre ⟨T.setVm vm₁, locs, cells, slots⟩ argsL.toArray) :
    (∃ (v : Option Value) (vm₁ : Vm) (B : Pt), s.WarmedH vm₁ ∧ Stand p l e R s m args below meth c B.U B.locs B.cells B.slots ∧ Post ⟨T.setVm vm₁, locs, cells, slots⟩ argsL.toArray v B ∧
      ∀ target, Steps p.tables e below (B.U.setTop { g with pc := g.pc + 3, stack := v.toList ++ rest }) target → Steps p.tables e below (T.setTop g) target) ∨
    (∃ (q : Addr) (vm₁ : Vm) (B : Pt), s.WarmedH vm₁ ∧ Stand p l e R s m args below meth c B.U B.locs B.cells B.slots ∧ PostX ⟨T.setVm vm₁, locs, cells, slots⟩ argsL.toArray q B ∧
      Steps p.tables e below (T.setTop g) ((B.U.setTop { g with stack := rest }).pushFrame (.throwing q))) := by
  obtain ⟨mk, hnamed⟩ := Cond.code_named hcode
  obtain ⟨methM, cM, hmethM, -, -, -, -, -, -, hsigM⟩ := Cond.code_spec hnamed hcode
  have hstatic : methM.isStatic = true := Cond.static_spec hnamed hmethM hstat
  obtain ⟨kP, hkP, -⟩ := className_of_methodNamed hnamed
  have hinitP : kP.init = .initialized := Cond.initialized_spec (findClass_of_methodNamed hnamed) hkP hinit
  obtain ⟨vm₁, X₁, hstep₁⟩ := X.invokestatic hexec hown hlink hnamed hmethM hstatic hkP hinitP hy (g := g) hg (argsL := argsL) (rest := rest) (hlen _ hsigM) hstack hdg
  rcases hK m meth c ⟨T.setVm vm₁, locs, cells, slots⟩ { g with stack := rest } (.invokestatic index) mk argsL.toArray X₁ hg hsize hdg hW (X₁.named hnamed) (hpre vm₁ X₁.warmed) with ⟨v, B, X', hpost, hsteps⟩ | ⟨q, B, X', hpost, hsteps⟩
  · exact Or.inl ⟨v, vm₁, B, X₁.warmed, X', hpost, fun target h => hstep₁ _ fun acts => by rw [doInvoke_state]; exact hsteps.trans h⟩
  · exact Or.inr ⟨q, vm₁, B, X₁.warmed, X', hpost, hstep₁ _ fun acts => by rw [doInvoke_state]; exact hsteps⟩
end Calls
theorem vx_cls {s : State} {T : State} {vm₁ : Vm} {E : String} {k : ClassId} (hW : s.WarmedH vm₁) (h : (T.setVm vm₁).vm.findClass E = some k) : s.vm.findClass E = some k := by
  have h1 : vm₁.findClass E = some k := h
  rw [hW.alike.findClass] at h1
  exact h1
/-- the method's frame g, with q thrown over it -/
def vx_W (p : Program) (l : Launch) (e : Env) (R : Room) (s : State) (m : MethodId) (args : Array Value) (below : List Frame) (meth : Method) (c : Code) (H : Heap) (locs : List Loc) (cells slots : Nat) (Q : State → Prop) (g : JFrame) (q : Addr) : Prop :=
  ∀ T : State, T.heap = H → Stand p l e R s m args below meth c T locs cells slots → ∃ t, Steps p.tables e below ((T.setTop g).pushFrame (.throwing q)) t ∧ Q t
def vx_Run (p : Program) (l : Launch) (e : Env) (R : Room) (s : State) (m : MethodId) (args : Array Value) (below : List Frame) (meth : Method) (c : Code) (H : Heap) (locs : List Loc) (cells slots mc ms : Nat) (g : JFrame) (rest : List Value) (Qa : State → Outcome → State → Prop) (XC : String → State → State → Prop) (free : Addr → Prop) : Prop :=
  ∀ T : State, T.heap = H → Stand p l e R s m args below meth c T locs cells slots →
    (∃ (v : Option Value) (st₀ t T' : State) (L : List Loc), st₀.heap = H ∧ Stand p l e R s m args below meth c T' (locs ++ L) (cells + mc) (slots + ms) ∧ (∀ q ∈ L, free q.base) ∧ T'.heap = t.heap ∧ T'.vm = t.vm ∧ Qa st₀ (.returned v) t ∧
      Goes p e below T g T' { g with pc := g.pc + 3, stack := v.toList ++ rest }) ∨
    (∃ (q : Addr) (st₀ t T' : State) (L : List Loc) (E : String) (ce : Cell), st₀.heap = H ∧ Stand p l e R s m args below meth c T' (locs ++ L) (cells + mc) (slots + ms) ∧ (∀ z ∈ L, free z.base) ∧ T'.heap = t.heap ∧ T'.vm = t.vm ∧ XC E st₀ t ∧ t.heap[q]? = some ce ∧ ce.vm = .none ∧ s.vm.findClass E = some ce.cls ∧
      Steps p.tables e below (T.setTop g) ((T'.setTop { g with stack := rest }).pushFrame (.throwing q)))
def vx_X {S : Type} (px : S → Prop) (B : String → S → State → Prop) (A : Nat → Prop) : String → State → State → Prop := fun E st t => ∃ u : S, px u ∧ B E u t ∧ va_F A st t
section Runs
variable {p : Program} {l : Launch} {e : Env} {R : Room} {s : State} {m : MethodId} {args : Array Value} {below : List Frame} {meth : Method} {c : Code} {H : Heap} {locs : List Loc} {cells slots : Nat}
variable {y : MethodName} {bytes cc : ByteArray} {maxL nL mc ms n index : Nat} {ret : Option FieldType} {ws : List Cond} {rm : Room} {Pc : Array Value → State → Prop} {Qc : Array Value → State → Outcome → State → Prop} {XC : String → State → State → Prop} {free : Addr → Prop} {Ts : List Cond} {own C : String} {b : Addr} {As rest : List Value} {g : JFrame}
theorem vx_callBack (cb : CallB R s args own index y bytes maxL ret ws rm mc ms n) (hM : vx_Met l y ws rm Pc Qc XC mc ms free) (hbl : FrameBlind Pc) : vx_Back l R p e below s args y 3 8 (PreOf R mc ms Pc) (PostOf Qc mc ms free) (vx_Post XC mc ms free) := by
  obtain ⟨hrc, hrs, hfr, hlo, hws, hcw, -, hini, -⟩ := cb
  exact vx_back (bytes := bytes) (maxL := maxL) (ret := ret) hM hbl hrc hrs hfr hlo hws hcw (fun a' U hW => word_at hW (Or.inl (by first | rfl | simp [Cond.onTables, Cond.keeps, Cond.steady])) hini)
theorem vx_runV (S : CallFix p m c cc nL s args Ts own) (hM : vx_Met l y ws rm Pc Qc XC mc ms free) (cw : CallW R s args own C index y bytes maxL ret ws rm mc ms n) (hp : PreV s H C b Pc As)
    (hg : g.method = m) (hn : As.length = n) (hsize : g.locals.size = nL) (hstack : g.stack = As.reverse ++ .ref b :: rest) (hW : 2 * g.monitorRoom + (rest.map fun v => v.category).sum ≤ 8) (hdg : decode cc g.pc = .ok (.invokevirtual index, 3)) (hf : cells + mc ≤ R.cells ∧ slots + ms ≤ R.slots) :
    vx_Run p l e R s m args below meth c H locs cells slots mc ms g rest (Qc (Value.ref b :: As).toArray) XC free := by
  have hK : vx_Back l R p e below s args y 3 8 (PreOf R mc ms Pc) (PostOf Qc mc ms free) (vx_Post XC mc ms free) := vx_callBack cw.1 hM hp.1
  obtain ⟨⟨-, -, -, -, -, -, hcode, -, hy, hlen, hl⟩, hin, hse⟩ := cw
  obtain ⟨hx, hb, hml, ho, -⟩ := S
  obtain ⟨-, ⟨cellB, hcB, hoB, hclB⟩, hPc⟩ := hp
  intro T hT X
  rcases vx_callV X hx (C := C) (bytes := bytes) (maxL := maxL) (ret := ret) ho hl hin hse hcode hy hK (by rw [hT]; exact hcB) hoB hclB hg (hsize.trans hml.symm) (argsL := As) (rest := rest) (fun sig h => hn.trans (hlen sig h)) hstack hW (by rw [hb]; exact hdg)
    (fun vm₁ hW₁ => ⟨hf.1, hf.2, hPc (T.setVm vm₁) hT hW₁⟩) with ⟨v, vm₁, ⟨U', l2, c2, s2⟩, hW₁, X', ⟨g', mk, t, L, e1, e2, hq, h1, hL, h2, h3⟩, st⟩ | ⟨q, vm₁, ⟨U', l2, c2, s2⟩, hW₁, X', ⟨g', mk, t, L, E, ce, e1, e2, hq, hce, hcv, hcl, h1, hL, h2, h3⟩, st⟩
  · dsimp only [Pt.U, Pt.locs, Pt.cells, Pt.slots] at X' e1 e2 h1 h2 h3 st
    subst h1; subst h2; subst h3
    exact Or.inl ⟨v, (T.setVm vm₁).calling g' mk (Value.ref b :: As).toArray, t, U', L, hT, X', hL, e1, e2, hq, st⟩
  · dsimp only [Pt.U, Pt.locs, Pt.cells, Pt.slots] at X' e1 e2 h1 h2 h3 st hcl
    subst h1; subst h2; subst h3
    exact Or.inr ⟨q, (T.setVm vm₁).calling g' mk (Value.ref b :: As).toArray, t, U', L, E, ce, hT, X', hL, e1, e2, hq, hce, hcv, vx_cls hW₁ hcl, st⟩
theorem vx_runS (S : CallFix p m c cc nL s args Ts own) (hM : vx_Met l y ws rm Pc Qc XC mc ms free) (cw : CallB R s args own index y bytes maxL ret ws rm mc ms n ∧ (Cond.static y).before args s = true) (hp : PreS s H Pc As)
    (hg : g.method = m) (hn : As.length = n) (hsize : g.locals.size = nL) (hstack : g.stack = As.reverse ++ rest) (hW : 2 * g.monitorRoom + (rest.map fun v => v.category).sum ≤ 8) (hdg : decode cc g.pc = .ok (.invokestatic index, 3)) (hf : cells + mc ≤ R.cells ∧ slots + ms ≤ R.slots) :
    vx_Run p l e R s m args below meth c H locs cells slots mc ms g rest (Qc As.toArray) XC free := by
  have hK : vx_Back l R p e below s args y 3 8 (PreOf R mc ms Pc) (PostOf Qc mc ms free) (vx_Post XC mc ms free) := vx_callBack cw.1 hM hp.1
  obtain ⟨⟨-, -, -, -, -, -, hcode, hini, hy, hlen, hl⟩, hstt⟩ := cw
  obtain ⟨hx, hb, hml, ho, -⟩ := S
  intro T hT X
  rcases vx_callS X hx (bytes := bytes) (maxL := maxL) (ret := ret) ho hl hstt hini hcode hy hK hg (hsize.trans hml.symm) (argsL := As) (rest := rest) (fun sig h => hn.trans (hlen sig h)) hstack hW (by rw [hb]; exact hdg)
    (fun vm₁ hW₁ => ⟨hf.1, hf.2, hp.2 (T.setVm vm₁) hT hW₁⟩) with ⟨v, vm₁, ⟨U', l2, c2, s2⟩, hW₁, X', ⟨g', mk, t, L, e1, e2, hq, h1, hL, h2, h3⟩, st⟩ | ⟨q, vm₁, ⟨U', l2, c2, s2⟩, hW₁, X', ⟨g', mk, t, L, E, ce, e1, e2, hq, hce, hcv, hcl, h1, hL, h2, h3⟩, st⟩
  · dsimp only [Pt.U, Pt.locs, Pt.cells, Pt.slots] at X' e1 e2 h1 h2 h3 st
    subst h1; subst h2; subst h3
    exact Or.inl ⟨v, (T.setVm vm₁).calling g' mk As.toArray, t, U', L, hT, X', hL, e1, e2, hq, st⟩
  · dsimp only [Pt.U, Pt.locs, Pt.cells, Pt.slots] at X' e1 e2 h1 h2 h3 st hcl
    subst h1; subst h2; subst h3
    exact Or.inr ⟨q, (T.setVm vm₁).calling g' mk As.toArray, t, U', L, E, ce, hT, X', hL, e1, e2, hq, hce, hcv, vx_cls hW₁ hcl, st⟩
end Runs
section Rows
variable {p : Program} {l : Launch} {e : Env} {R : Room} {s : State} {m : MethodId} {args : Array Value} {below : List Frame} {meth : Method} {c : Code} {H : Heap} {locs : List Loc} {cells slots : Nat} {Q : State → Prop}
variable {mc ms : Nat} {free : Addr → Prop} {A0 A1 : Nat → Prop} {H0 : Heap} {a : Array Value} {pc : Nat} {ls : Array Slot} {st0 rest : List Value}
theorem vx_keep {st₀ t T' : State} {L : List Loc} (h0 : st₀.heap = H) (e1 : T'.heap = t.heap) (hS : va_S A0 H0 H locs) (hA : ∀ q, q < H.size → A1 q → A0 q) (hf : ∀ q, free q → A0 q) (hL : ∀ q ∈ L, free q.base) (hF : va_F A1 st₀ t) :
    H.size ≤ T'.heap.size ∧ (∀ q : Nat, q < H.size → ¬ A1 q → T'.heap[q]? = H[q]?) ∧ va_S A0 H0 T'.heap (locs ++ L) := by
  obtain ⟨hz, hk⟩ := hF
  rw [h0] at hz hk
  exact ⟨by rw [e1]; exact hz, fun q h1 h2 => by rw [e1]; exact hk q h1 h2,
    ⟨Nat.le_trans hS.1 (by rw [e1]; exact hz), fun q h1 h2 => by rw [e1, hk q (Nat.lt_of_lt_of_le h1 hS.1) (fun z => h2 (hA q (Nat.lt_of_lt_of_le h1 hS.1) z))]; exact hS.2.1 q h1 h2, fun q hq => by
      rcases List.mem_append.mp hq with h | h
      · exact hS.2.2 q h
      · exact hf _ (hL q h)⟩⟩
theorem vx_calli {S SX : Type} {post : Int32 → S → Prop} {px : SX → Prop} {B : S → State → Prop} {BX : String → SX → State → Prop} {AX : Nat → Prop} (hr : vx_Run p l e R s m args below meth c H locs cells slots mc ms (F0 m pc ls st0) rest (va_Qi post B A1 a) (vx_X px BX AX) free) (hS : va_S A0 H0 H locs) (hA : ∀ q, q < H.size → A1 q → A0 q) (hf : ∀ q, free q → A0 q) (hAX : ∀ q, q < H.size → AX q → A0 q)
    (kx : ∀ (E : String) (ce : Cell) (q9 : Addr) (u : SX) (t : State) (H1 : Heap) (locs1 : List Loc), t.heap = H1 → s.vm.Alike t.vm → px u → BX E u t → H.size ≤ H1.size → (∀ q : Nat, q < H.size → ¬ AX q → H1[q]? = H[q]?) → va_S A0 H0 H1 locs1 → H1[q9]? = some ce → ce.vm = .none → s.vm.findClass E = some ce.cls → vx_W p l e R s m args below meth c H1 locs1 (cells + mc) (slots + ms) Q (F0 m pc ls rest) q9)
    (kk : ∀ (r : Int32) (u : S) (t : State) (H1 : Heap) (locs1 : List Loc), t.heap = H1 → s.vm.Alike t.vm → post r u → B u t → H.size ≤ H1.size → (∀ q : Nat, q < H.size → ¬ A1 q → H1[q]? = H[q]?) → va_S A0 H0 H1 locs1 → W p l e R s m args below meth c H1 locs1 (cells + mc) (slots + ms) Q (F0 m (pc + 3) ls (.int r :: rest))) : W p l e R s m args below meth c H locs cells slots Q (F0 m pc ls st0) := by
  intro T hT X
  rcases hr T hT X with ⟨v, st₀, t, T', L, h0, X', hL, e1, e2, ⟨⟨r, u, hv, hp, hb⟩, hF⟩, st⟩ | ⟨q, st₀, t, T', L, E, ce, h0, X', hL, e1, e2, ⟨u, hp, hb, hF⟩, hce, hcv, hcl, st⟩
  · cases hv
    obtain ⟨k1, k2, k3⟩ := vx_keep h0 e1 hS hA hf hL hF
    obtain ⟨t2, a1, b1⟩ := kk r u t T'.heap (locs ++ L) e1.symm (by rw [← e2]; exact X'.warmed.alike) hp hb k1 k2 k3 T' rfl X'
    exact ⟨t2, st t2 a1, b1⟩
  · obtain ⟨k1, k2, k3⟩ := vx_keep h0 e1 hS hAX hf hL hF
    obtain ⟨t2, a1, b1⟩ := kx E ce q u t T'.heap (locs ++ L) e1.symm (by rw [← e2]; exact X'.warmed.alike) hp hb k1 k2 k3 (by rw [e1]; exact hce) hcv hcl T' rfl X'
    exact ⟨t2, st.trans a1, b1⟩
theorem vx_calll {S SX : Type} {post : Int64 → S → Prop} {px : SX → Prop} {B : S → State → Prop} {BX : String → SX → State → Prop} {AX : Nat → Prop} (hr : vx_Run p l e R s m args below meth c H locs cells slots mc ms (F0 m pc ls st0) rest (va_Ql post B A1 a) (vx_X px BX AX) free) (hS : va_S A0 H0 H locs) (hA : ∀ q, q < H.size → A1 q → A0 q) (hf : ∀ q, free q → A0 q) (hAX : ∀ q, q < H.size → AX q → A0 q)
    (kx : ∀ (E : String) (ce : Cell) (q9 : Addr) (u : SX) (t : State) (H1 : Heap) (locs1 : List Loc), t.heap = H1 → s.vm.Alike t.vm → px u → BX E u t → H.size ≤ H1.size → (∀ q : Nat, q < H.size → ¬ AX q → H1[q]? = H[q]?) → va_S A0 H0 H1 locs1 → H1[q9]? = some ce → ce.vm = .none → s.vm.findClass E = some ce.cls → vx_W p l e R s m args below meth c H1 locs1 (cells + mc) (slots + ms) Q (F0 m pc ls rest) q9)
    (kk : ∀ (r : Int64) (u : S) (t : State) (H1 : Heap) (locs1 : List Loc), t.heap = H1 → s.vm.Alike t.vm → post r u → B u t → H.size ≤ H1.size → (∀ q : Nat, q < H.size → ¬ A1 q → H1[q]? = H[q]?) → va_S A0 H0 H1 locs1 → W p l e R s m args below meth c H1 locs1 (cells + mc) (slots + ms) Q (F0 m (pc + 3) ls (.long r :: rest))) : W p l e R s m args below meth c H locs cells slots Q (F0 m pc ls st0) := by
  intro T hT X
  rcases hr T hT X with ⟨v, st₀, t, T', L, h0, X', hL, e1, e2, ⟨⟨r, u, hv, hp, hb⟩, hF⟩, st⟩ | ⟨q, st₀, t, T', L, E, ce, h0, X', hL, e1, e2, ⟨u, hp, hb, hF⟩, hce, hcv, hcl, st⟩
  · cases hv
    obtain ⟨k1, k2, k3⟩ := vx_keep h0 e1 hS hA hf hL hF
    obtain ⟨t2, a1, b1⟩ := kk r u t T'.heap (locs ++ L) e1.symm (by rw [← e2]; exact X'.warmed.alike) hp hb k1 k2 k3 T' rfl X'
    exact ⟨t2, st t2 a1, b1⟩
  · obtain ⟨k1, k2, k3⟩ := vx_keep h0 e1 hS hAX hf hL hF
    obtain ⟨t2, a1, b1⟩ := kx E ce q u t T'.heap (locs ++ L) e1.symm (by rw [← e2]; exact X'.warmed.alike) hp hb k1 k2 k3 (by rw [e1]; exact hce) hcv hcl T' rfl X'
    exact ⟨t2, st.trans a1, b1⟩
theorem vx_callf {S SX : Type} {post : UInt32 → S → Prop} {px : SX → Prop} {B : S → State → Prop} {BX : String → SX → State → Prop} {AX : Nat → Prop} (hr : vx_Run p l e R s m args below meth c H locs cells slots mc ms (F0 m pc ls st0) rest (va_Qf post B A1 a) (vx_X px BX AX) free) (hS : va_S A0 H0 H locs) (hA : ∀ q, q < H.size → A1 q → A0 q) (hf : ∀ q, free q → A0 q) (hAX : ∀ q, q < H.size → AX q → A0 q)
    (kx : ∀ (E : String) (ce : Cell) (q9 : Addr) (u : SX) (t : State) (H1 : Heap) (locs1 : List Loc), t.heap = H1 → s.vm.Alike t.vm → px u → BX E u t → H.size ≤ H1.size → (∀ q : Nat, q < H.size → ¬ AX q → H1[q]? = H[q]?) → va_S A0 H0 H1 locs1 → H1[q9]? = some ce → ce.vm = .none → s.vm.findClass E = some ce.cls → vx_W p l e R s m args below meth c H1 locs1 (cells + mc) (slots + ms) Q (F0 m pc ls rest) q9)
    (kk : ∀ (r : UInt32) (u : S) (t : State) (H1 : Heap) (locs1 : List Loc), t.heap = H1 → s.vm.Alike t.vm → post r u → B u t → H.size ≤ H1.size → (∀ q : Nat, q < H.size → ¬ A1 q → H1[q]? = H[q]?) → va_S A0 H0 H1 locs1 → W p l e R s m args below meth c H1 locs1 (cells + mc) (slots + ms) Q (F0 m (pc + 3) ls (.float r :: rest))) : W p l e R s m args below meth c H locs cells slots Q (F0 m pc ls st0) := by
  intro T hT X
  rcases hr T hT X with ⟨v, st₀, t, T', L, h0, X', hL, e1, e2, ⟨⟨r, u, hv, hp, hb⟩, hF⟩, st⟩ | ⟨q, st₀, t, T', L, E, ce, h0, X', hL, e1, e2, ⟨u, hp, hb, hF⟩, hce, hcv, hcl, st⟩
  · cases hv
    obtain ⟨k1, k2, k3⟩ := vx_keep h0 e1 hS hA hf hL hF
    obtain ⟨t2, a1, b1⟩ := kk r u t T'.heap (locs ++ L) e1.symm (by rw [← e2]; exact X'.warmed.alike) hp hb k1 k2 k3 T' rfl X'
    exact ⟨t2, st t2 a1, b1⟩
  · obtain ⟨k1, k2, k3⟩ := vx_keep h0 e1 hS hAX hf hL hF
    obtain ⟨t2, a1, b1⟩ := kx E ce q u t T'.heap (locs ++ L) e1.symm (by rw [← e2]; exact X'.warmed.alike) hp hb k1 k2 k3 (by rw [e1]; exact hce) hcv hcl T' rfl X'
    exact ⟨t2, st.trans a1, b1⟩
theorem vx_calld {S SX : Type} {post : UInt64 → S → Prop} {px : SX → Prop} {B : S → State → Prop} {BX : String → SX → State → Prop} {AX : Nat → Prop} (hr : vx_Run p l e R s m args below meth c H locs cells slots mc ms (F0 m pc ls st0) rest (va_Qd post B A1 a) (vx_X px BX AX) free) (hS : va_S A0 H0 H locs) (hA : ∀ q, q < H.size → A1 q → A0 q) (hf : ∀ q, free q → A0 q) (hAX : ∀ q, q < H.size → AX q → A0 q)
    (kx : ∀ (E : String) (ce : Cell) (q9 : Addr) (u : SX) (t : State) (H1 : Heap) (locs1 : List Loc), t.heap = H1 → s.vm.Alike t.vm → px u → BX E u t → H.size ≤ H1.size → (∀ q : Nat, q < H.size → ¬ AX q → H1[q]? = H[q]?) → va_S A0 H0 H1 locs1 → H1[q9]? = some ce → ce.vm = .none → s.vm.findClass E = some ce.cls → vx_W p l e R s m args below meth c H1 locs1 (cells + mc) (slots + ms) Q (F0 m pc ls rest) q9)
    (kk : ∀ (r : UInt64) (u : S) (t : State) (H1 : Heap) (locs1 : List Loc), t.heap = H1 → s.vm.Alike t.vm → post r u → B u t → H.size ≤ H1.size → (∀ q : Nat, q < H.size → ¬ A1 q → H1[q]? = H[q]?) → va_S A0 H0 H1 locs1 → W p l e R s m args below meth c H1 locs1 (cells + mc) (slots + ms) Q (F0 m (pc + 3) ls (.double r :: rest))) : W p l e R s m args below meth c H locs cells slots Q (F0 m pc ls st0) := by
  intro T hT X
  rcases hr T hT X with ⟨v, st₀, t, T', L, h0, X', hL, e1, e2, ⟨⟨r, u, hv, hp, hb⟩, hF⟩, st⟩ | ⟨q, st₀, t, T', L, E, ce, h0, X', hL, e1, e2, ⟨u, hp, hb, hF⟩, hce, hcv, hcl, st⟩
  · cases hv
    obtain ⟨k1, k2, k3⟩ := vx_keep h0 e1 hS hA hf hL hF
    obtain ⟨t2, a1, b1⟩ := kk r u t T'.heap (locs ++ L) e1.symm (by rw [← e2]; exact X'.warmed.alike) hp hb k1 k2 k3 T' rfl X'
    exact ⟨t2, st t2 a1, b1⟩
  · obtain ⟨k1, k2, k3⟩ := vx_keep h0 e1 hS hAX hf hL hF
    obtain ⟨t2, a1, b1⟩ := kx E ce q u t T'.heap (locs ++ L) e1.symm (by rw [← e2]; exact X'.warmed.alike) hp hb k1 k2 k3 (by rw [e1]; exact hce) hcv hcl T' rfl X'
    exact ⟨t2, st.trans a1, b1⟩
theorem vx_callv {S SX : Type} {post : S → Prop} {px : SX → Prop} {B : S → State → Prop} {BX : String → SX → State → Prop} {AX : Nat → Prop} (hr : vx_Run p l e R s m args below meth c H locs cells slots mc ms (F0 m pc ls st0) rest (va_Qv post B A1 a) (vx_X px BX AX) free) (hS : va_S A0 H0 H locs) (hA : ∀ q, q < H.size → A1 q → A0 q) (hf : ∀ q, free q → A0 q) (hAX : ∀ q, q < H.size → AX q → A0 q)
    (kx : ∀ (E : String) (ce : Cell) (q9 : Addr) (u : SX) (t : State) (H1 : Heap) (locs1 : List Loc), t.heap = H1 → s.vm.Alike t.vm → px u → BX E u t → H.size ≤ H1.size → (∀ q : Nat, q < H.size → ¬ AX q → H1[q]? = H[q]?) → va_S A0 H0 H1 locs1 → H1[q9]? = some ce → ce.vm = .none → s.vm.findClass E = some ce.cls → vx_W p l e R s m args below meth c H1 locs1 (cells + mc) (slots + ms) Q (F0 m pc ls rest) q9)
    (kk : ∀ (u : S) (t : State) (H1 : Heap) (locs1 : List Loc), t.heap = H1 → s.vm.Alike t.vm → post u → B u t → H.size ≤ H1.size → (∀ q : Nat, q < H.size → ¬ A1 q → H1[q]? = H[q]?) → va_S A0 H0 H1 locs1 → W p l e R s m args below meth c H1 locs1 (cells + mc) (slots + ms) Q (F0 m (pc + 3) ls (rest))) : W p l e R s m args below meth c H locs cells slots Q (F0 m pc ls st0) := by
  intro T hT X
  rcases hr T hT X with ⟨v, st₀, t, T', L, h0, X', hL, e1, e2, ⟨⟨u, hv, hp, hb⟩, hF⟩, st⟩ | ⟨q, st₀, t, T', L, E, ce, h0, X', hL, e1, e2, ⟨u, hp, hb, hF⟩, hce, hcv, hcl, st⟩
  · cases hv
    obtain ⟨k1, k2, k3⟩ := vx_keep h0 e1 hS hA hf hL hF
    obtain ⟨t2, a1, b1⟩ := kk u t T'.heap (locs ++ L) e1.symm (by rw [← e2]; exact X'.warmed.alike) hp hb k1 k2 k3 T' rfl X'
    exact ⟨t2, st t2 a1, b1⟩
  · obtain ⟨k1, k2, k3⟩ := vx_keep h0 e1 hS hAX hf hL hF
    obtain ⟨t2, a1, b1⟩ := kx E ce q u t T'.heap (locs ++ L) e1.symm (by rw [← e2]; exact X'.warmed.alike) hp hb k1 k2 k3 (by rw [e1]; exact hce) hcv hcl T' rfl X'
    exact ⟨t2, st.trans a1, b1⟩
/-- caught by the row x of this method's table; the rows ahead don't take it -/
theorem vx_catch {own name : String} {E : String} {ce : Cell} {q : Addr} (hown : s.vm.findClass own = some m.cls) (pre : List ExceptionTableEntry) (x : ExceptionTableEntry) (suf : List ExceptionTableEntry) (hsplit : c.exceptionTable.toList = pre ++ x :: suf)
    (hpass : ∀ z ∈ pre, covers z pc = false ∨ (z.catchType ≠ 0 ∧ ∃ nm : String, (Cond.classLink own z.catchType nm).before args s = true ∧ va_Nc E nm s)) (hx : covers x pc = true) (h0 : x.catchType ≠ 0)
    (hlink : (Cond.classLink own x.catchType name).before args s = true) (hcast : (Cond.castable E name).before args s = true) (hcell : H[q]? = some ce) (hv : ce.vm = .none) (hcl : s.vm.findClass E = some ce.cls)
    (kk : W p l e R s m args below meth c H locs cells slots Q (F0 m x.handlerPc ls [.ref q])) : vx_W p l e R s m args below meth c H locs cells slots Q (F0 m pc ls rest) q := by
  intro T hT X
  have hpl : e.platform.magicAccessors = ({} : Platform).magicAccessors := by rw [X.admits.platform]
  obtain ⟨c3, c4, hc3, hc4, hasg⟩ := Cond.castable_spec hcast
  cases Option.some.inj (hc3.symm.trans hcl)
  obtain ⟨c5, hc5, hcl5⟩ := Cond.classLink_spec hown hlink e.platform hpl
  cases Option.some.inj (hc4.symm.trans hc5)
  obtain ⟨vm', X', st⟩ := X.thenCaughtThrough q (g := F0 m pc ls rest) rfl (Steps.refl _) (by rw [hT]; exact hcell) (by rw [hv]; rfl) (by obtain ⟨k9, h9, -⟩ := Vm.findClass_spec hcl; exact ⟨k9, h9⟩) pre x suf hsplit
    (fun z hz => by
      rcases hpass z hz with h | ⟨hz0, nm, hl1, hn1⟩
      · exact Or.inl h
      · obtain ⟨c6, hc6, hcl6⟩ := Cond.classLink_spec hown hl1 e.platform hpl
        obtain ⟨a8, b8, h1, h2, h3⟩ := hn1
        cases Option.some.inj (h1.symm.trans hcl)
        cases Option.some.inj (h2.symm.trans hc6)
        exact Or.inr ⟨hz0, _, hcl6, h3⟩) hx (Or.inr ⟨h0, c4, hcl5, hasg⟩)
  obtain ⟨t, a1, b1⟩ := kk (T.setVm vm') hT X'
  exact ⟨t, st.trans a1, b1⟩
end Rows
section Ends
variable {p : Program} {l : Launch} {e : Env} {R : Room} {s : State} {m : MethodId} {args : Array Value} {below : List Frame} {meth : Method} {c : Code} {H : Heap} {locs : List Loc} {cells slots : Nat} {Q : State → Prop}
variable {mc ms : Nat} {free : Addr → Prop} {A0 A1 : Nat → Prop} {H0 : Heap} {a : Array Value} {ls : Array Slot} {st0 rest : List Value}
variable {Qc : Array Value → State → Outcome → State → Prop} {XC : String → State → State → Prop}
/-- what a body that may throw owes at its end -/
def vx_MQ (below : List Frame) (Qc : Array Value → State → Outcome → State → Prop) (XC : String → State → State → Prop) (a : Array Value) (s : State) (mc ms : Nat) (free : Addr → Prop) : State → Prop := fun t =>
  ∃ o, t.status = .running ∧ Ended t below o ∧ vx_Q Qc XC mc ms free a s o t
theorem vx_ret {g : JFrame} {mc ms : Nat} (k : W p l e R s m args below meth c H locs cells slots (MQ below Qc args s mc ms free) g) : W p l e R s m args below meth c H locs cells slots (vx_MQ below Qc XC args s mc ms free) g := by
  intro T hT X
  obtain ⟨t, a1, o, b1, b2, b3, b4⟩ := k T hT X
  exact ⟨t, a1, o, b1, b2, Or.inl ⟨b3, b4⟩⟩
/-- not caught here: it goes on to the caller -/
theorem vx_widen {g : JFrame} {q : Addr} {k n : Nat} (h1 : cells ≤ k) (h2 : slots ≤ n) (kk : vx_W p l e R s m args below meth c H locs k n Q g q) : vx_W p l e R s m args below meth c H locs cells slots Q g q := fun T hT X => kk T hT (stand_widen X h1 h2)
theorem vx_out {pc : Nat} {E : String} {ce : Cell} {q : Addr} {mc ms : Nat} (hout : ∀ x ∈ c.exceptionTable.toList, covers x pc = false) (hlocks : meth.locks = false) (hcell : H[q]? = some ce) (hv : ce.vm = .none) (hcl : s.vm.findClass E = some ce.cls)
    (hx : ∀ t : State, t.heap = H → s.vm.Alike t.vm → XC E s t) (hf : ∀ z ∈ locs, free z.base) (hc : cells ≤ mc) (hs : slots ≤ ms) :
    vx_W p l e R s m args below meth c H locs cells slots (vx_MQ below Qc XC args s mc ms free) (F0 m pc ls rest) q := by
  intro T hT X
  obtain ⟨st1, hrun, hend, hW, hsm⟩ := X.leaveThrown q (g := F0 m pc ls rest) rfl rfl rfl hout hlocks
  have hcell9 : (T.setFrames (.throwing q :: below)).heap[q]? = some ce := by
    show T.heap[q]? = some ce
    rw [hT]; exact hcell
  exact ⟨_, st1, .threw q, hrun, hend, Or.inr ⟨q, rfl, E, ce, locs, hx _ hT hW.alike, hcell9, hv, hcl, hW, hsm.mono hc hs, hf⟩⟩
theorem vx_frame {U : State} {k n : Nat} (h : s.sameButNew ({ U with vm := s.vm } : State) locs k n) : s.heap.size ≤ U.heap.size ∧ ∀ q : Nat, q < s.heap.size → (∀ z ∈ locs, z.base ≠ q) → U.heap[q]? = s.heap[q]? := by
  obtain ⟨-, h2, -, -, -, h6⟩ := h
  refine ⟨h2, fun q hq hz => ?_⟩
  obtain ⟨c9, e1, e2, e3, e4⟩ := h6 q _ (Array.getElem?_eq_getElem hq)
  have hs : c9.slots = (s.heap[q]).slots := Array.ext_getElem? fun i => e4 i fun hm => hz _ hm rfl
  have h9 : c9 = s.heap[q] := by
    rw [hs] at e2
    exact e2
  have e5 : U.heap[q]? = some c9 := e1
  rw [e5, h9, Array.getElem?_eq_getElem hq]
/-- the words of a throw but the four that speak of the heap -/
def vx_no (w : Cond) : Bool := decide (w ≠ .isRef (.static Bundle.tN "UNASSIGNED_STACK" Bundle.steD)) && decide (w ≠ .isRef (.static Bundle.tN "SUPPRESSED_SENTINEL" Bundle.listD)) && decide (w ≠ .laysStatic Bundle.tN "UNASSIGNED_STACK" Bundle.steD) && decide (w ≠ .laysStatic Bundle.tN "SUPPRESSED_SENTINEL" Bundle.listD)
def vx_at0 (own : String) (ic : Nat) (X : String) (names : List String) : List Cond := (Bundle.ownAtoms0 own ic X names).filter vx_no
def vx_atS (own : String) (ic : Nat) (X : String) (names : List String) : List Cond := (Bundle.ownAtoms own ic X names).filter vx_no
/-- a word that the tables alone decide, or a good one -/
def vx_ot (w : Cond) : Bool := w.onTables || goodWord w
theorem vx_ot_at {args a' : Array Value} {s U : State} {w : Cond} (hW : s.WarmedH U.vm) (hvm : s.vm = U.vm) (hg : vx_ot w = true) (h : w.before args s = true) : w.before a' U = true := by
  simp only [vx_ot, Bool.or_eq_true] at hg
  rcases hg with hg | hg
  · exact va_tabs hg hvm h
  · exact word_at hW (good_of_word hg) h
/-- a list's words: the good ones out of the method's own list, the others by premises of their own -/
theorem vx_hat {args : Array Value} {s : State} {L B : List Cond} (h1 : ∀ w ∈ L.filter goodWord, w.before args s = true) (h2 : ∀ w ∈ L.filter (fun w => !goodWord w), w ∈ B) (h3 : ∀ w ∈ B, w.before args s = true) : ∀ w ∈ L, w.before args s = true := by
  intro w hw
  by_cases g : goodWord w = true
  · exact h1 w (List.mem_filter.mpr ⟨hw, g⟩)
  · refine h3 w (h2 w (List.mem_filter.mpr ⟨hw, ?_⟩))
    show (!goodWord w) = true
    cases hgw : goodWord w
    · rfl
    · exact absurd hgw g
theorem vx_c {args : Array Value} {s : State} {w : Cond} {B : List Cond} (h : w.before args s = true) (t : ∀ w ∈ B, w.before args s = true) : ∀ w' ∈ w :: B, w'.before args s = true := fun w' h' => (List.mem_cons.mp h').elim (fun e => by rw [e]; exact h) (t w')
theorem vx_n {args : Array Value} {s : State} : ∀ w ∈ ([] : List Cond), w.before args s = true := fun _ h => nomatch h
theorem vx_own {args : Array Value} {s : State} {L : List Cond} (h1 : ∀ w ∈ L.filter vx_no, w.before args s = true)
    (hU : (Cond.isRef (.static Bundle.tN "UNASSIGNED_STACK" Bundle.steD)).before args s = true) (hN : (Cond.isRef (.static Bundle.tN "SUPPRESSED_SENTINEL" Bundle.listD)).before args s = true)
    (lU : (Cond.laysStatic Bundle.tN "UNASSIGNED_STACK" Bundle.steD).before args s = true) (lN : (Cond.laysStatic Bundle.tN "SUPPRESSED_SENTINEL" Bundle.listD).before args s = true) : ∀ w ∈ L, w.before args s = true := by
  intro w hw
  by_cases e1 : w = .isRef (.static Bundle.tN "UNASSIGNED_STACK" Bundle.steD)
  · rw [e1]; exact hU
  · by_cases e2 : w = .isRef (.static Bundle.tN "SUPPRESSED_SENTINEL" Bundle.listD)
    · rw [e2]; exact hN
    · by_cases e3 : w = .laysStatic Bundle.tN "UNASSIGNED_STACK" Bundle.steD
      · rw [e3]; exact lU
      · by_cases e4 : w = .laysStatic Bundle.tN "SUPPRESSED_SENTINEL" Bundle.listD
        · rw [e4]; exact lN
        · exact h1 w (List.mem_filter.mpr ⟨hw, by unfold vx_no; rw [decide_eq_true e1, decide_eq_true e2, decide_eq_true e3, decide_eq_true e4]; rfl⟩)
/-- where a static field lies, its class's statics cell in H -/
def vx_L (C n d : String) (A : Nat → Prop) (U : State) (H : Heap) : Prop := ∃ (c : ClassId) (k : Class) (i : Nat) (f : Field) (a : Nat) (cell : Cell), U.vm.findClass C = some c ∧ U.fieldFound? C n d = some (c, k, i, f) ∧ f.isStatic = true ∧ k.statics = some a ∧ H[a]? = some cell ∧ cell.vm.isStatics = true ∧ cell.cls = c ∧ f.slot < cell.slots.size ∧ k.staticTypes[f.slot]? = some f.type ∧ ¬ A a
theorem vx_L.moved {C n d : String} {A : Nat → Prop} {u U : State} {H : Heap} (hvm : u.vm.Alike U.vm) (h : vx_L C n d A u H) : vx_L C n d A U H := by
  obtain ⟨c, k, i, f, a, cell, h1, h2, h3, h4, h5, h6, h7, h8, h9, h10⟩ := h
  obtain ⟨k', hi', he⟩ := State.fieldFound?_setVm hvm h2
  exact ⟨c, k', i, f, a, cell, by rw [hvm.findClass]; exact h1, hi', h3, by rw [he]; exact h4, h5, h6, h7, h8, by rw [he]; exact h9, h10⟩
theorem vx_L.kept {C n d : String} {A : Nat → Prop} {U : State} {H H1 : Heap} (h : vx_L C n d A U H) (hq : ∀ a : Nat, a < H.size → ¬ A a → H1[a]? = H[a]?) : vx_L C n d A U H1 := by
  obtain ⟨c, k, i, f, a, cell, h1, h2, h3, h4, h5, h6, h7, h8, h9, h10⟩ := h
  exact ⟨c, k, i, f, a, cell, h1, h2, h3, h4, by rw [hq a (Array.getElem?_eq_some_iff.mp h5).1 h10]; exact h5, h6, h7, h8, h9, h10⟩
theorem vx_L.narrow {C n d : String} {A B : Nat → Prop} {U : State} {H : Heap} (h : vx_L C n d A U H) (hAB : ∀ q, B q → A q) : vx_L C n d B U H := by
  obtain ⟨c, k, i, f, a, cell, h1, h2, h3, h4, h5, h6, h7, h8, h9, h10⟩ := h
  exact ⟨c, k, i, f, a, cell, h1, h2, h3, h4, h5, h6, h7, h8, h9, fun z => h10 (hAB _ z)⟩
theorem vx_L.word {C n d : String} {A : Nat → Prop} {s : State} {args : Array Value} (h : vx_L C n d A s s.heap) : (Cond.laysStatic C n d).before args s = true := by
  obtain ⟨c, k, i, f, a, cell, h1, h2, h3, h4, h5, h6, h7, h8, h9, -⟩ := h
  show (Cond.laysStatic C n d).holds args s none s [] = true
  exact Cond.laysStatic_of h1 h2 h3 h4 h5 h6 h7 h8 h9
/-- .. and what it holds: null or some reference -/
def vx_Zq (C n d : String) (A : Nat → Prop) (U : State) (H : Heap) : Prop := va_Zq C n d A U H ∧ vx_L C n d A U H
theorem vx_Zq.moved {C n d : String} {A : Nat → Prop} {u U : State} {H : Heap} (hvm : u.vm.Alike U.vm) (h : vx_Zq C n d A u H) : vx_Zq C n d A U H := ⟨va_Zq.moved hvm h.1, vx_L.moved hvm h.2⟩
theorem vx_Zq.kept {C n d : String} {A : Nat → Prop} {U : State} {H H1 : Heap} (h : vx_Zq C n d A U H) (hq : ∀ a : Nat, a < H.size → ¬ A a → H1[a]? = H[a]?) : vx_Zq C n d A U H1 := ⟨va_Zq.kept h.1 hq, vx_L.kept h.2 hq⟩
theorem vx_Zq.narrow {C n d : String} {A B : Nat → Prop} {U : State} {H : Heap} (h : vx_Zq C n d A U H) (hAB : ∀ q, B q → A q) : vx_Zq C n d B U H := ⟨va_Zq.narrow h.1 hAB, vx_L.narrow h.2 hAB⟩
theorem vx_Zqof {args : Array Value} {s : State} {C n d : String} {A : Nat → Prop} (hl : (Cond.laysStatic C n d).before args s = true) (hini : (Cond.initialized C).before args s = true) (h : (Cond.isRef (.static C n d)).before args s = true) (hA : ∀ a : Nat, a < s.heap.size → ¬ A a) : vx_Zq C n d A s s.heap := by
  refine ⟨va_Zqof hl hini h hA, ?_⟩
  obtain ⟨c, k, i, f, a, cell, h1, h2, h3, h4, h5, h6, h7, h8, h9⟩ := Cond.laysStatic_spec hl
  exact ⟨c, k, i, f, a, cell, h1, h2, h3, h4, h5, h6, h7, h8, h9, hA a (Array.getElem?_eq_some_iff.mp h5).1⟩
theorem vx_isRef {C n d : String} {v : Value} {A : Nat → Prop} {s : State} {args : Array Value} (h : va_Z C n d v A s s.heap) (hv : v.isRef = true) : (Cond.isRef (.static C n d)).before args s = true := by
  obtain ⟨cf, kf, fi, f, a, cell, h1, h2, h3, h4, h5, h6, h7, -⟩ := h
  have he : (Term.static C n d).eval args s none [] s = some v := by
    simp [Term.eval, State.fieldNamed?, h1, h2, h4, h5, h6, h7]
  simp only [Cond.before, Cond.holds, Cond.value, he]
  cases v <;> simp_all [Value.isRef]
theorem vx_isRefq {C n d : String} {A : Nat → Prop} {s : State} {args : Array Value} (h : va_Zq C n d A s s.heap) : (Cond.isRef (.static C n d)).before args s = true := by
  rcases h with h | ⟨t, h⟩
  · exact vx_isRef h rfl
  · exact vx_isRef h rfl
/-- the same frame, seen from here: as if the method were called anew in this heap -/
theorem vx_rebase {T : State} (X : Stand p l e R s m args below meth c T locs cells slots) {R' : Room} (hf : R'.frames ≤ R.frames) (hl : R'.locals ≤ R.locals) (hc : cells + R'.cells ≤ R.cells) (hs : slots + R'.slots ≤ R.slots) :
    Stand p l e R' ((T.setVm s.vm).setFrames (.invoking m args :: below)) m args below meth c T [] 0 0 := by
  have htop : (T.setVm s.vm).topJava?.isSome := X.here.top
  have hF : ((T.setVm s.vm).setFrames (.invoking m args :: below)).frames = .invoking m args :: below := State.frames_setFrames _ (State.cur_lt_of_top htop)
  obtain ⟨g₀, hg0⟩ := Option.isSome_iff_exists.mp htop
  obtain ⟨r, hr⟩ := State.topJava?_eq_some.mp hg0
  have hl9 : e.platform.stackLimits (T.setVm s.vm).me = e.platform.stackLimits s.me := X.limits
  have hb9 : (T.setVm s.vm).me.stackBytes = s.me.stackBytes := X.bytes
  refine ⟨X.admits, X.cas, X.clock, hF, ?_, X.hears, X.method, X.code, X.here, X.tail, X.warmed, ?_, ?_, ?_⟩
  · have h := X.room
    have hU : ((T.setVm s.vm).setFrames (.invoking m args :: below)).localsInUse = s.localsInUse := by
      rw [State.localsInUse_invoking hF (meth := meth) (c := c) X.method X.code, State.localsInUse_invoking X.frames X.method X.code]
    simp only [State.hasRoom, Bool.and_eq_true, decide_eq_true_eq] at h ⊢
    obtain ⟨⟨⟨⟨h1, h2, h3, h4, h5, h6⟩, h7⟩, h8⟩, h9⟩ := h
    rw [X.frames, List.length_cons] at h2 h3
    have q1 := X.heapSize
    have q2 := X.used
    simp only [hF, hU, List.length_cons, State.stackLimits_setFrames, State.stackBytes_setFrames, hl9, hb9]
    refine ⟨⟨⟨⟨by omega, by omega, by omega, by omega, by omega, h6⟩, ?_⟩, ?_⟩, X.book⟩
    · show T.heap.size + R'.cells ≤ e.platform.maxCells
      omega
    · show T.slotsUsed + R'.slots ≤ e.platform.maxSlots
      omega
  · rw [State.stackLimits_setFrames]; rfl
  · rw [State.stackBytes_setFrames]; rfl
  · refine ⟨?_, Nat.le_refl _, Nat.le_refl _, ?_, ?_, fun a c9 h9 => ⟨c9, h9, rfl, rfl, fun _ _ => rfl⟩⟩
    · obtain ⟨t, ht, -⟩ := State.frames_cons hr
      show T.setVm s.vm = { ((T.setVm s.vm).setFrames (.invoking m args :: below)).setFrames (T.setVm s.vm).frames with heap := T.heap, slotsUsed := T.slotsUsed }
      rw [State.setFrames_setFrames, State.setFrames_self ht]
      rfl
    · show T.slotsUsed = T.slotsUsed + ((T.heap.toList.drop T.heap.size).map (·.slots.size)).sum
      rw [List.drop_eq_nil_of_le (Nat.le_of_eq Array.length_toList)]
      rfl
    · show ((T.heap.toList.drop T.heap.size).map (·.slots.size)).sum ≤ 0
      rw [List.drop_eq_nil_of_le (Nat.le_of_eq Array.length_toList)]
      exact Nat.le_refl _
/-- 'throw new E()': new; dup; invokespecial; athrow -/
theorem vx_throw0 {cc : ByteArray} {pc : Nat} (hexec : p.tables.exec = Jvm.exec) (hb : c.code = cc) (hl : l.stackTraces = false) {own cls : String} {names : List String} {ik ic mc ms : Nat} {A : Nat → Prop}
    (hown : s.vm.findClass own = some m.cls) (hcls : Bundle.fit cls = true) (hnames : ∀ n ∈ names, Bundle.fit n = true)
    (hk : (Cond.classLink own ik cls).before args s = true) (hini : (Cond.initialized cls).before args s = true) (hat : ∀ w ∈ vx_at0 own ic cls names, w.before args s = true)
    (hgood : ∀ w ∈ Cond.classLink own ik cls :: Cond.initialized cls :: vx_at0 own ic cls names, vx_ot w = true)
    (hU : vx_Zq Bundle.tN "UNASSIGNED_STACK" Bundle.steD A s s.heap) (hN : vx_Zq Bundle.tN "SUPPRESSED_SENTINEL" Bundle.listD A s s.heap) (hS : va_S A s.heap H locs) (hsize : ls.size = c.maxLocals)
    (d0 : decode cc pc = .ok (.new ik, 3)) (d3 : decode cc (pc + 3) = .ok (.dup, 1)) (d4 : decode cc (pc + 4) = .ok (.invokespecial ic, 3)) (d7 : decode cc (pc + 7) = .ok (.athrow, 1))
    (hout : ∀ x ∈ c.exceptionTable.toList, covers x (pc + 7) = false)
    (hRframes : names.length + 3 < R.frames) (hRlocals : (rest.map fun v => v.category).sum + (13 * (names.length + 1) + 42) ≤ R.locals) (hRcells : cells + 1 ≤ R.cells) (hRslots : slots + 6 ≤ R.slots) (hlocks : meth.locks = false)
    (hx : ∀ t : State, s.vm.Alike t.vm → H.size ≤ t.heap.size → (∀ q : Nat, q < H.size → t.heap[q]? = H[q]?) → XC cls s t)
    (hf : ∀ z ∈ locs, free z.base) (hc : cells + 1 ≤ mc) (hs : slots + 6 ≤ ms) :
    W p l e R s m args below meth c H locs cells slots (vx_MQ below Qc XC args s mc ms free) (F0 m pc ls rest) := by
  intro T hT X
  have htr : e.platform.stackTraces = false := (show e.platform.stackTraces = l.stackTraces by rw [X.admits.platform]).trans hl
  have Y := vx_rebase X (R' := { frames := R.frames, locals := R.locals, cells := 1, slots := 6 }) (Nat.le_refl _) (Nat.le_refl _) hRcells hRslots
  obtain ⟨s', hA⟩ : ∃ z, z = (T.setVm s.vm).setFrames (.invoking m args :: below) := ⟨_, rfl⟩
  rw [← hA] at Y
  have hvm : s'.vm = s.vm := by rw [hA]; rfl
  have hhp : s'.heap = H := by rw [hA]; exact hT
  have hW0 : s.WarmedH s'.vm := by rw [hvm]; exact State.WarmedH.refl s
  have hat' : ∀ w ∈ vx_at0 own ic cls names, w.before args s' = true := fun w hw => vx_ot_at hW0 hvm.symm (hgood w (List.mem_cons_of_mem _ (List.mem_cons_of_mem _ hw))) (hat w hw)
  have hk' : (Cond.classLink own ik cls).before args s' = true := vx_ot_at hW0 hvm.symm (hgood _ List.mem_cons_self) hk
  have hini' : (Cond.initialized cls).before args s' = true := vx_ot_at hW0 hvm.symm (hgood _ (List.mem_cons_of_mem _ List.mem_cons_self)) hini
  have hU' : vx_Zq Bundle.tN "UNASSIGNED_STACK" Bundle.steD A s' s'.heap := by rw [hhp]; exact vx_Zq.moved hW0.alike (hU.kept hS.2.1)
  have hN' : vx_Zq Bundle.tN "SUPPRESSED_SENTINEL" Bundle.listD A s' s'.heap := by rw [hhp]; exact vx_Zq.moved hW0.alike (hN.kept hS.2.1)
  have h : ∀ w ∈ Bundle.ownAtoms0 own ic cls names, w.before args s' = true := vx_own hat' (vx_isRefq hU'.1) (vx_isRefq hN'.1) hU'.2.word hN'.2.word
  have hown' : s'.vm.findClass own = some m.cls := by rw [hvm]; exact hown
  have hins : (Cond.instantiable cls 6).before args s' = true := h _ (by simp [Bundle.ownAtoms0])
  obtain ⟨vm₁, cX, kX, hfX, hkX, -, -, X₁, st1⟩ := Y.newCold hexec (own := own) (C := cls) (index := ik) (n := 6) hown' hk' hins hini'
    (g := F0 m pc ls rest) rfl (by rw [hb]; exact d0) (Nat.le_refl _) (Nat.le_refl _)
  generalize hT1 : (T.setVm vm₁).pushCell { cls := cX, slots := kX.instanceTypes.map defaultValue, vm := .none } = T1 at X₁ st1
  have hcat : (Value.ref T.heap.size).category = 1 := rfl
  have hcellA : T1.heap[T.heap.size]? = some (freshCell cX kX) := by rw [← hT1]; exact State.heap_pushCell_size _ _
  have d3' : decode c.code (pc + 3) = .ok (.dup, 1) := by rw [hb]; exact d3
  obtain ⟨U, hsteps, hrun, hend, hW, hsame, ce, hce, hO⟩ := X₁.ctorThrow0 hexec htr (own := own) (cls := cls) (names := names) (ic := ic) hown' hcls hnames h (fun x hx => nomatch hx) hfX hkX hcellA (by rw [hhp, hT]; exact Nat.le_refl _)
    (g := { method := m, pc := pc + 4, locals := ls, stack := .ref T.heap.size :: .ref T.heap.size :: rest, locked := none }) rfl hsize rfl rfl (rest := rest) rfl
    (by rw [hb]; exact d4) (by rw [hb]; exact d7) hout hRframes (by simp only [List.map_cons, List.sum_cons, hcat]; omega) hlocks
  obtain ⟨f1, f2⟩ := vx_frame hsame
  rw [hhp] at f1 f2
  have hWs : s.WarmedH U.vm := State.WarmedH.trans hW0 hW
  have hcl : s.vm.findClass cls = some ce.cls := by
    have h9 := hO.cls
    rw [hvm] at h9
    exact h9
  have hall : s.sameButNew ({ U with vm := s.vm } : State) locs mc ms := by
    subst hA
    obtain ⟨e1, e2⟩ := hsame
    rw [State.setFrames_setFrames] at e1
    have h2 : (T.setVm s.vm).sameButNew ({ U with vm := s.vm } : State) [] (0 + 1) (0 + 6) := ⟨e1, e2⟩
    have h3 := X.same.trans h2
    rw [List.append_nil] at h3
    exact h3.mono hc hs
  refine ⟨U, ?_, .threw T.heap.size, hrun, hend, Or.inr ⟨T.heap.size, rfl, cls, ce, locs, hx U hWs.alike f1 (fun q hq => f2 q hq (fun z hz => nomatch hz)), hce, hO.vm, hcl, hWs, hall, hf⟩⟩
  refine st1 _ ?_
  show Steps p.tables e below (T1.setTop { method := m, pc := pc + 3, locals := ls, stack := .ref T.heap.size :: rest, locked := none }) _
  jvm_step X₁.here [X₁.here.top, hexec, d3', Value.category]
  exact hsteps
/-- 'throw new E("text")': new; dup; ldc; invokespecial; athrow -/
theorem vx_throwS {cc : ByteArray} {pc : Nat} (hexec : p.tables.exec = Jvm.exec) (hb : c.code = cc) (hl : l.stackTraces = false) {own cls text : String} {names : List String} {ik is ic mc ms sa : Nat} {A : Nat → Prop}
    (hown : s.vm.findClass own = some m.cls) (hcls : Bundle.fit cls = true) (hnames : ∀ n ∈ names, Bundle.fit n = true)
    (hk : (Cond.classLink own ik cls).before args s = true) (hini : (Cond.initialized cls).before args s = true) (hstr : vk_R own is text sa s) (hat : ∀ w ∈ vx_atS own ic cls names, w.before args s = true)
    (hgood : ∀ w ∈ Cond.classLink own ik cls :: Cond.initialized cls :: vx_atS own ic cls names, vx_ot w = true)
    (hU : vx_Zq Bundle.tN "UNASSIGNED_STACK" Bundle.steD A s s.heap) (hN : vx_Zq Bundle.tN "SUPPRESSED_SENTINEL" Bundle.listD A s s.heap) (hS : va_S A s.heap H locs) (hsize : ls.size = c.maxLocals)
    (d0 : decode cc pc = .ok (.new ik, 3)) (d3 : decode cc (pc + 3) = .ok (.dup, 1)) (d4 : decode cc (pc + 4) = .ok (.ldc is, 2)) (d6 : decode cc (pc + 6) = .ok (.invokespecial ic, 3)) (d9 : decode cc (pc + 9) = .ok (.athrow, 1))
    (hout : ∀ x ∈ c.exceptionTable.toList, covers x (pc + 9) = false)
    (hRframes : names.length + 3 < R.frames) (hRlocals : (rest.map fun v => v.category).sum + (13 * (names.length + 1) + 43) ≤ R.locals) (hRcells : cells + 1 ≤ R.cells) (hRslots : slots + 6 ≤ R.slots) (hlocks : meth.locks = false)
    (hx : ∀ t : State, s.vm.Alike t.vm → H.size ≤ t.heap.size → (∀ q : Nat, q < H.size → t.heap[q]? = H[q]?) → XC cls s t)
    (hf : ∀ z ∈ locs, free z.base) (hc : cells + 1 ≤ mc) (hs : slots + 6 ≤ ms) :
    W p l e R s m args below meth c H locs cells slots (vx_MQ below Qc XC args s mc ms free) (F0 m pc ls rest) := by
  intro T hT X
  have htr : e.platform.stackTraces = false := (show e.platform.stackTraces = l.stackTraces by rw [X.admits.platform]).trans hl
  have Y := vx_rebase X (R' := { frames := R.frames, locals := R.locals, cells := 1, slots := 6 }) (Nat.le_refl _) (Nat.le_refl _) hRcells hRslots
  obtain ⟨s', hA⟩ : ∃ z, z = (T.setVm s.vm).setFrames (.invoking m args :: below) := ⟨_, rfl⟩
  rw [← hA] at Y
  have hvm : s'.vm = s.vm := by rw [hA]; rfl
  have hhp : s'.heap = H := by rw [hA]; exact hT
  have hW0 : s.WarmedH s'.vm := by rw [hvm]; exact State.WarmedH.refl s
  have hat' : ∀ w ∈ vx_atS own ic cls names, w.before args s' = true := fun w hw => vx_ot_at hW0 hvm.symm (hgood w (List.mem_cons_of_mem _ (List.mem_cons_of_mem _ hw))) (hat w hw)
  have hk' : (Cond.classLink own ik cls).before args s' = true := vx_ot_at hW0 hvm.symm (hgood _ List.mem_cons_self) hk
  have hini' : (Cond.initialized cls).before args s' = true := vx_ot_at hW0 hvm.symm (hgood _ (List.mem_cons_of_mem _ List.mem_cons_self)) hini
  have hU' : vx_Zq Bundle.tN "UNASSIGNED_STACK" Bundle.steD A s' s'.heap := by rw [hhp]; exact vx_Zq.moved hW0.alike (hU.kept hS.2.1)
  have hN' : vx_Zq Bundle.tN "SUPPRESSED_SENTINEL" Bundle.listD A s' s'.heap := by rw [hhp]; exact vx_Zq.moved hW0.alike (hN.kept hS.2.1)
  have h : ∀ w ∈ Bundle.ownAtoms own ic cls names, w.before args s' = true := vx_own hat' (vx_isRefq hU'.1) (vx_isRefq hN'.1) hU'.2.word hN'.2.word
  have hown' : s'.vm.findClass own = some m.cls := by rw [hvm]; exact hown
  have hins : (Cond.instantiable cls 6).before args s' = true := h _ (by simp [Bundle.ownAtoms])
  obtain ⟨vm₁, cX, kX, hfX, hkX, -, -, X₁, st1⟩ := Y.newCold hexec (own := own) (C := cls) (index := ik) (n := 6) hown' hk' hins hini'
    (g := F0 m pc ls rest) rfl (by rw [hb]; exact d0) (Nat.le_refl _) (Nat.le_refl _)
  generalize hT1 : (T.setVm vm₁).pushCell { cls := cX, slots := kX.instanceTypes.map defaultValue, vm := .none } = T1 at X₁ st1
  have hcat : (Value.ref T.heap.size).category = 1 := rfl
  have hcellA : T1.heap[T.heap.size]? = some (freshCell cX kX) := by rw [← hT1]; exact State.heap_pushCell_size _ _
  have d3' : decode c.code (pc + 3) = .ok (.dup, 1) := by rw [hb]; exact d3
  have d4' : decode c.code (pc + 4) = .ok (.ldc is, 2) := by rw [hb]; exact d4
  have hstr' : vk_R own is text sa s' := vk_R.warm hW0 hstr
  obtain ⟨U, hsteps, hrun, hend, hW, hsame, ce, hce, hO⟩ := X₁.ctorThrowS hexec htr (own := own) (cls := cls) (names := names) (ic := ic) hown' hcls hnames h (fun x hx => nomatch hx) hfX hkX hcellA (by rw [hhp, hT]; exact Nat.le_refl _) (msg := .ref sa) rfl
    (g := { method := m, pc := pc + 6, locals := ls, stack := .ref sa :: .ref T.heap.size :: .ref T.heap.size :: rest, locked := none }) rfl hsize rfl rfl (rest := rest) rfl
    (by rw [hb]; exact d6) (by rw [hb]; exact d9) hout hRframes (by simp only [List.map_cons, List.sum_cons, hcat]; omega) hlocks
  obtain ⟨f1, f2⟩ := vx_frame hsame
  rw [hhp] at f1 f2
  have hWs : s.WarmedH U.vm := State.WarmedH.trans hW0 hW
  have hcl : s.vm.findClass cls = some ce.cls := by
    have h9 := hO.cls
    rw [hvm] at h9
    exact h9
  have hall : s.sameButNew ({ U with vm := s.vm } : State) locs mc ms := by
    subst hA
    obtain ⟨e1, e2⟩ := hsame
    rw [State.setFrames_setFrames] at e1
    have h2 : (T.setVm s.vm).sameButNew ({ U with vm := s.vm } : State) [] (0 + 1) (0 + 6) := ⟨e1, e2⟩
    have h3 := X.same.trans h2
    rw [List.append_nil] at h3
    exact h3.mono hc hs
  refine ⟨U, ?_, .threw T.heap.size, hrun, hend, Or.inr ⟨T.heap.size, rfl, cls, ce, locs, hx U hWs.alike f1 (fun q hq => f2 q hq (fun z hz => nomatch hz)), hce, hO.vm, hcl, hWs, hall, hf⟩⟩
  refine st1 _ ?_
  show Steps p.tables e below (T1.setTop { method := m, pc := pc + 3, locals := ls, stack := .ref T.heap.size :: rest, locked := none }) _
  jvm_step X₁.here [X₁.here.top, hexec, d3', Value.category]
  exact X₁.ldcString hexec (own := own) (text := text) (index := is) (a := sa) hown' hstr'.1 hstr'.2
    (g := { method := m, pc := pc + 4, locals := ls, stack := .ref T.heap.size :: .ref T.heap.size :: rest, locked := none }) rfl d4' _ hsteps
/-- 'throw new E("text")', the text by a wide index -/
theorem vx_throwSW {cc : ByteArray} {pc : Nat} (hexec : p.tables.exec = Jvm.exec) (hb : c.code = cc) (hl : l.stackTraces = false) {own cls text : String} {names : List String} {ik is ic mc ms sa : Nat} {A : Nat → Prop}
    (hown : s.vm.findClass own = some m.cls) (hcls : Bundle.fit cls = true) (hnames : ∀ n ∈ names, Bundle.fit n = true)
    (hk : (Cond.classLink own ik cls).before args s = true) (hini : (Cond.initialized cls).before args s = true) (hstr : vk_R own is text sa s) (hat : ∀ w ∈ vx_atS own ic cls names, w.before args s = true)
    (hgood : ∀ w ∈ Cond.classLink own ik cls :: Cond.initialized cls :: vx_atS own ic cls names, vx_ot w = true)
    (hU : vx_Zq Bundle.tN "UNASSIGNED_STACK" Bundle.steD A s s.heap) (hN : vx_Zq Bundle.tN "SUPPRESSED_SENTINEL" Bundle.listD A s s.heap) (hS : va_S A s.heap H locs) (hsize : ls.size = c.maxLocals)
    (d0 : decode cc pc = .ok (.new ik, 3)) (d3 : decode cc (pc + 3) = .ok (.dup, 1)) (d4 : decode cc (pc + 4) = .ok (.ldc_w is, 3)) (d7 : decode cc (pc + 7) = .ok (.invokespecial ic, 3)) (d10 : decode cc (pc + 10) = .ok (.athrow, 1))
    (hout : ∀ x ∈ c.exceptionTable.toList, covers x (pc + 10) = false)
    (hRframes : names.length + 3 < R.frames) (hRlocals : (rest.map fun v => v.category).sum + (13 * (names.length + 1) + 43) ≤ R.locals) (hRcells : cells + 1 ≤ R.cells) (hRslots : slots + 6 ≤ R.slots) (hlocks : meth.locks = false)
    (hx : ∀ t : State, s.vm.Alike t.vm → H.size ≤ t.heap.size → (∀ q : Nat, q < H.size → t.heap[q]? = H[q]?) → XC cls s t)
    (hf : ∀ z ∈ locs, free z.base) (hc : cells + 1 ≤ mc) (hs : slots + 6 ≤ ms) :
    W p l e R s m args below meth c H locs cells slots (vx_MQ below Qc XC args s mc ms free) (F0 m pc ls rest) := by
  intro T hT X
  have htr : e.platform.stackTraces = false := (show e.platform.stackTraces = l.stackTraces by rw [X.admits.platform]).trans hl
  have Y := vx_rebase X (R' := { frames := R.frames, locals := R.locals, cells := 1, slots := 6 }) (Nat.le_refl _) (Nat.le_refl _) hRcells hRslots
  obtain ⟨s', hA⟩ : ∃ z, z = (T.setVm s.vm).setFrames (.invoking m args :: below) := ⟨_, rfl⟩
  rw [← hA] at Y
  have hvm : s'.vm = s.vm := by rw [hA]; rfl
  have hhp : s'.heap = H := by rw [hA]; exact hT
  have hW0 : s.WarmedH s'.vm := by rw [hvm]; exact State.WarmedH.refl s
  have hat' : ∀ w ∈ vx_atS own ic cls names, w.before args s' = true := fun w hw => vx_ot_at hW0 hvm.symm (hgood w (List.mem_cons_of_mem _ (List.mem_cons_of_mem _ hw))) (hat w hw)
  have hk' : (Cond.classLink own ik cls).before args s' = true := vx_ot_at hW0 hvm.symm (hgood _ List.mem_cons_self) hk
  have hini' : (Cond.initialized cls).before args s' = true := vx_ot_at hW0 hvm.symm (hgood _ (List.mem_cons_of_mem _ List.mem_cons_self)) hini
  have hU' : vx_Zq Bundle.tN "UNASSIGNED_STACK" Bundle.steD A s' s'.heap := by rw [hhp]; exact vx_Zq.moved hW0.alike (hU.kept hS.2.1)
  have hN' : vx_Zq Bundle.tN "SUPPRESSED_SENTINEL" Bundle.listD A s' s'.heap := by rw [hhp]; exact vx_Zq.moved hW0.alike (hN.kept hS.2.1)
  have h : ∀ w ∈ Bundle.ownAtoms own ic cls names, w.before args s' = true := vx_own hat' (vx_isRefq hU'.1) (vx_isRefq hN'.1) hU'.2.word hN'.2.word
  have hown' : s'.vm.findClass own = some m.cls := by rw [hvm]; exact hown
  have hins : (Cond.instantiable cls 6).before args s' = true := h _ (by simp [Bundle.ownAtoms])
  obtain ⟨vm₁, cX, kX, hfX, hkX, -, -, X₁, st1⟩ := Y.newCold hexec (own := own) (C := cls) (index := ik) (n := 6) hown' hk' hins hini'
    (g := F0 m pc ls rest) rfl (by rw [hb]; exact d0) (Nat.le_refl _) (Nat.le_refl _)
  generalize hT1 : (T.setVm vm₁).pushCell { cls := cX, slots := kX.instanceTypes.map defaultValue, vm := .none } = T1 at X₁ st1
  have hcat : (Value.ref T.heap.size).category = 1 := rfl
  have hcellA : T1.heap[T.heap.size]? = some (freshCell cX kX) := by rw [← hT1]; exact State.heap_pushCell_size _ _
  have d3' : decode c.code (pc + 3) = .ok (.dup, 1) := by rw [hb]; exact d3
  have d4' : decode c.code (pc + 4) = .ok (.ldc_w is, 3) := by rw [hb]; exact d4
  have hstr' : vk_R own is text sa s' := vk_R.warm hW0 hstr
  obtain ⟨U, hsteps, hrun, hend, hW, hsame, ce, hce, hO⟩ := X₁.ctorThrowS hexec htr (own := own) (cls := cls) (names := names) (ic := ic) hown' hcls hnames h (fun x hx => nomatch hx) hfX hkX hcellA (by rw [hhp, hT]; exact Nat.le_refl _) (msg := .ref sa) rfl
    (g := { method := m, pc := pc + 7, locals := ls, stack := .ref sa :: .ref T.heap.size :: .ref T.heap.size :: rest, locked := none }) rfl hsize rfl rfl (rest := rest) rfl
    (by rw [hb]; exact d7) (by rw [hb]; exact d10) hout hRframes (by simp only [List.map_cons, List.sum_cons, hcat]; omega) hlocks
  obtain ⟨f1, f2⟩ := vx_frame hsame
  rw [hhp] at f1 f2
  have hWs : s.WarmedH U.vm := State.WarmedH.trans hW0 hW
  have hcl : s.vm.findClass cls = some ce.cls := by
    have h9 := hO.cls
    rw [hvm] at h9
    exact h9
  have hall : s.sameButNew ({ U with vm := s.vm } : State) locs mc ms := by
    subst hA
    obtain ⟨e1, e2⟩ := hsame
    rw [State.setFrames_setFrames] at e1
    have h2 : (T.setVm s.vm).sameButNew ({ U with vm := s.vm } : State) [] (0 + 1) (0 + 6) := ⟨e1, e2⟩
    have h3 := X.same.trans h2
    rw [List.append_nil] at h3
    exact h3.mono hc hs
  refine ⟨U, ?_, .threw T.heap.size, hrun, hend, Or.inr ⟨T.heap.size, rfl, cls, ce, locs, hx U hWs.alike f1 (fun q hq => f2 q hq (fun z hz => nomatch hz)), hce, hO.vm, hcl, hWs, hall, hf⟩⟩
  refine st1 _ ?_
  show Steps p.tables e below (T1.setTop { method := m, pc := pc + 3, locals := ls, stack := .ref T.heap.size :: rest, locked := none }) _
  jvm_step X₁.here [X₁.here.top, hexec, d3', Value.category]
  exact X₁.ldcStringW hexec (own := own) (text := text) (index := is) (a := sa) hown' hstr'.1 hstr'.2
    (g := { method := m, pc := pc + 4, locals := ls, stack := .ref T.heap.size :: .ref T.heap.size :: rest, locked := none }) rfl d4' _ hsteps
end Ends
section Bodies
variable {l : Launch}
theorem vx_ofW {y : MethodName} {ws ws' : List Cond} {rm : Room} {Pc : Array Value → State → Prop} {Qc : Array Value → State → Outcome → State → Prop} {XC : String → State → State → Prop} {mc ms : Nat} {free : Addr → Prop} {cc : ByteArray} {maxL : Nat} {ret : Option FieldType}
    (hy : plainName y.cls = true) (hw : ws = Cond.code y cc maxL ret :: ws')
    (body : ∀ p e s m args below meth c s₁, BodyLoose p l y (headSpec ws rm) cc maxL ret e s m args below meth c s₁ → c.maxLocals = maxL → (∀ x ∈ c.exceptionTable.toList, False) → Pc args s →
      W p l e (headSpec ws rm).room s m args below meth c s.heap [] 0 0 (vx_MQ below Qc XC args s mc ms free) (entryFrame m args maxL)) : vx_Met l y ws rm Pc Qc XC mc ms free := by
  refine MetFree.of_bodyS (code := cc) (maxLocals := maxL) (ret := ret) hy ?_ ?_
  · intro args s m h hn
    obtain ⟨meth, c, h1, h2, h3, h4, h5, h6, -, -⟩ := Cond.code_spec hn (atoms_spec (ws := ws) h _ (by rw [hw]; exact List.mem_cons_self))
    exact ⟨meth, c, h1, h2, h3, h4, h5, h6⟩
  · intro p e s m args below meth c s₁ B hml hP _
    have hh0 : s₁.heap = s.heap := by rw [B.state]; rfl
    have ht : ∀ x ∈ c.exceptionTable.toList, False := by
      obtain ⟨meth9, c9, h1, h2, -, -, -, -, h7, -⟩ := Cond.code_spec B.named (atoms_spec (ws := ws) B.pre _ (by rw [hw]; exact List.mem_cons_self))
      cases Option.some.inj (h1.symm.trans B.method)
      cases Option.some.inj (h2.symm.trans (Stand.of_body B).code)
      intro x hx
      rw [Array.isEmpty_iff.mp h7] at hx
      cases hx
    obtain ⟨t, a1, o, b1, b2, b3⟩ := body p e s m args below meth c s₁ B hml ht hP s₁ hh0 (Stand.of_body B)
    exact ⟨t, o, a1, b1, b2, b3⟩
/-- the table of a body with handlers -/
theorem vx_table {p : Program} {x y : MethodName} {S : Spec} {cc bytes : ByteArray} {maxL maxL' : Nat} {ret ret' : Option FieldType} {e : Env} {s s₁ : State} {m : MethodId} {args : Array Value} {below : List Frame} {meth : Method} {c : Code} {hh : List (Nat × Nat × Nat × Nat)}
    (B : BodyLoose p l y S cc maxL ret e s m args below meth c s₁) (h : (Cond.codeWith y bytes maxL' ret' hh).before args s = true) : c.exceptionTable.toList = tableOf hh := by
  obtain ⟨m9, meth9, c9, hn9, h1, h2, -, -, h6, -⟩ := Cond.codeWith_spec h
  cases Option.some.inj (hn9.symm.trans B.named)
  cases Option.some.inj (h1.symm.trans B.method)
  cases Option.some.inj (h2.symm.trans (Stand.of_body B).code)
  rw [← h6, table_eq]
end Bodies
end VXA
/-! ===== END ===== -/
/-! ===== BEGIN a static call of a method with an exception table ===== -/
section VXS
variable {p : Program} {l : Launch} {e : Env} {R : Room} {s : State} {m : MethodId} {args : Array Value} {below : List Frame} {meth : Method} {c : Code} {T : State} {H : Heap} {locs : List Loc} {cells slots : Nat}
abbrev vx_CSW (R : Room) (s : State) (args : Array Value) (own : String) (index : Nat) (y : MethodName) (bytes : ByteArray) (maxL : Nat) (ret : Option FieldType) (hh : List (Nat × Nat × Nat × Nat)) (ws : List Cond) (rm : Room) (mc ms n : Nat) : Prop :=
  (rm.cells = mc ∧ rm.slots = ms ∧ rm.frames + 1 ≤ R.frames ∧ 8 + (maxL + 11) + rm.locals ≤ R.locals ∧ (∀ w ∈ ws, ∀ (a' : Array Value) (U : State), s.WarmedH U.vm → w.before a' U = true) ∧ Cond.codeWith y bytes maxL ret hh ∈ ws) ∧
  (Cond.codeWith y bytes maxL ret hh).before args s = true ∧ (Cond.initialized y.cls).before args s = true ∧ (y.cls ≠ "java/lang/invoke/MethodHandle" ∧ y.cls ≠ "java/lang/invoke/VarHandle") ∧
  (∀ sig, parseMethodDescriptor y.desc = some sig → n = sig.parameters.length) ∧ (Cond.methodLink own index y).before args s = true ∧ (Cond.static y).before args s = true
theorem vx_cwSW {own : String} {index maxL mc ms : Nat} {y : MethodName} {bytes : ByteArray} {ret : Option FieldType} {hh : List (Nat × Nat × Nat × Nat)} {Ts ws ws' : List Cond} {rm : Room} (n : Nat) (ht : ∀ w ∈ Ts, w.before args s = true) (hT : GoodIn Ts (va_wsS own index y ws)) (hw : ws = Cond.codeWith y bytes maxL ret hh :: ws') (hrc : rm.cells = mc) (hrs : rm.slots = ms)
    (hd : y.cls ≠ "java/lang/invoke/MethodHandle" ∧ y.cls ≠ "java/lang/invoke/VarHandle" ∧ (parseMethodDescriptor y.desc).map (fun d => d.parameters.length) = some n) (hR : rm.frames + 1 ≤ R.frames ∧ 8 + (maxL + 11) + rm.locals ≤ R.locals) :
    vx_CSW R s args own index y bytes maxL ret hh ws rm mc ms n := by
  have ok : ∀ w ∈ va_wsS own index y ws, w.before args s = true := fun w h => ht w (hT w h).1
  have hG : GoodIn Ts ws := fun w h => hT w (by unfold va_wsS; exact List.mem_append_right _ h)
  have hc : Cond.codeWith y bytes maxL ret hh ∈ ws := by rw [hw]; exact List.mem_cons_self
  refine ⟨⟨hrc, hrs, hR.1, hR.2, pay_in ht hG, hc⟩, ht _ (hG _ hc).1, ok _ (by simp [va_wsS]), ⟨hd.1, hd.2.1⟩, fun sig h => ?_, ok _ (by simp [va_wsS]), ok _ (by simp [va_wsS])⟩
  have h2 := hd.2.2
  rw [h] at h2
  exact (Option.some.inj h2).symm
theorem vx_callSW (X : Stand p l e R s m args below meth c T locs cells slots) (hexec : p.tables.exec = Jvm.exec) {own : String} {index : Nat} {y : MethodName} {bytes : ByteArray} {maxL : Nat} {ret : Option FieldType} {hh : List (Nat × Nat × Nat × Nat)}
    (hown : s.vm.findClass own = some m.cls) (hlink : (Cond.methodLink own index y).before args s = true) (hstat : (Cond.static y).before args s = true) (hinit : (Cond.initialized y.cls).before args s = true)
    (hcode : (Cond.codeWith y bytes maxL ret hh).before args s = true) (hy : y.cls ≠ "java/lang/invoke/MethodHandle" ∧ y.cls ≠ "java/lang/invoke/VarHandle")
    {W9 : Nat} {Pre : Pt → Array Value → Prop} {Post : Pt → Array Value → Option Value → Pt → Prop} (hK : Back l R p e below s args y 3 W9 Pre Post)
    {g : JFrame} (hg : g.method = m) (hsize : g.locals.size = c.maxLocals) {argsL rest : List Value} (hlen : ∀ sig, parseMethodDescriptor y.desc = some sig → argsL.length = sig.parameters.length)
    (hstack : g.stack = argsL.reverse ++ rest) (hW : 2 * g.monitorRoom + (rest.map fun v => v.category).sum ≤ W9) (hdg : decode c.code g.pc = .ok (.invokestatic index, 3))
    (hpre : ∀ vm₁, s.WarmedH vm₁ → Pre ⟨T.setVm vm₁, locs, cells, slots⟩ argsL.toArray) :
    ∃ (v : Option Value) (vm₁ : Vm) (B : Pt), s.WarmedH vm₁ ∧ Stand p l e R s m args below meth c B.U B.locs B.cells B.slots ∧ Post ⟨T.setVm vm₁, locs, cells, slots⟩ argsL.toArray v B ∧
      ∀ target, Steps p.tables e below (B.U.setTop { g with pc := g.pc + 3, stack := v.toList ++ rest }) target → Steps p.tables e below (T.setTop g) target := by
  obtain ⟨mk, methM, cM, hnamed, hmethM, -, -, -, -, -, -, hsigM⟩ := Cond.codeWith_spec hcode
  have hstatic : methM.isStatic = true := Cond.static_spec hnamed hmethM hstat
  obtain ⟨kP, hkP, -⟩ := className_of_methodNamed hnamed
  have hinitP : kP.init = .initialized := Cond.initialized_spec (findClass_of_methodNamed hnamed) hkP hinit
  obtain ⟨vm₁, X₁, hstep₁⟩ := X.invokestatic hexec hown hlink hnamed hmethM hstatic hkP hinitP hy (g := g) hg (argsL := argsL) (rest := rest) (hlen _ hsigM) hstack hdg
  obtain ⟨v, B, X', hpost, hsteps⟩ := hK m meth c ⟨T.setVm vm₁, locs, cells, slots⟩ { g with stack := rest } (.invokestatic index) mk argsL.toArray X₁ hg hsize hdg hW (X₁.named hnamed) (hpre vm₁ X₁.warmed)
  exact ⟨v, vm₁, B, X₁.warmed, X', hpost, fun target h => hstep₁ _ fun acts => by rw [doInvoke_state]; exact hsteps.trans h⟩
theorem vx_runSW {y : MethodName} {bytes cc : ByteArray} {maxL nL mc ms n index : Nat} {ret : Option FieldType} {hh : List (Nat × Nat × Nat × Nat)} {ws : List Cond} {rm : Room} {Pc : Array Value → State → Prop} {Qc : Array Value → State → Outcome → State → Prop} {free : Addr → Prop} {Ts : List Cond} {own : String} {As rest : List Value} {g : JFrame}
    (S : CallFix p m c cc nL s args Ts own) (hM : Met l y ws rm Pc Qc mc ms free) (cw : vx_CSW R s args own index y bytes maxL ret hh ws rm mc ms n) (hp : PreS s H Pc As)
    (hg : g.method = m) (hn : As.length = n) (hsize : g.locals.size = nL) (hstack : g.stack = As.reverse ++ rest) (hW : 2 * g.monitorRoom + (rest.map fun v => v.category).sum ≤ 8) (hdg : decode cc g.pc = .ok (.invokestatic index, 3)) (hf : cells + mc ≤ R.cells ∧ slots + ms ≤ R.slots) :
    va_Run p l e R s m args below meth c H locs cells slots mc ms g rest (Qc As.toArray) (free) := by
  obtain ⟨⟨hrc, hrs, hfr, hlo, hws, hcw⟩, hcode, hini, hy, hlen, hl, hstt⟩ := cw
  have hK : Back l R p e below s args y 3 8 (PreOf R mc ms Pc) (PostOf Qc mc ms free) := va_backW (hh := hh) (bytes := bytes) (maxL := maxL) (ret := ret) hM hp.1 hrc hrs hfr hlo hws hcw (fun a' U hW => word_at hW (Or.inl (by first | rfl | simp [Cond.onTables, Cond.keeps, Cond.steady])) hini)
  obtain ⟨hx, hb, hml, ho, -⟩ := S
  intro T hT X
  obtain ⟨v, vm₁, ⟨U', l2, c2, s2⟩, hW₁, X', ⟨g', mk, t, L, e1, e2, hq, h1, hL, h2, h3⟩, st⟩ := vx_callSW X hx (hh := hh) (bytes := bytes) (maxL := maxL) (ret := ret) ho hl hstt hini hcode hy hK hg (hsize.trans hml.symm) (argsL := As) (rest := rest) (fun sig h => hn.trans (hlen sig h)) hstack hW (by rw [hb]; exact hdg)
    (fun vm₁ hW₁ => ⟨hf.1, hf.2, hp.2 (T.setVm vm₁) hT hW₁⟩)
  dsimp only [Pt.U, Pt.locs, Pt.cells, Pt.slots] at X' e1 e2 h1 h2 h3 st
  subst h1; subst h2; subst h3
  exact ⟨v, (T.setVm vm₁).calling g' mk As.toArray, t, U', L, hT, X', hL, e1, e2, hq, st⟩
/-- not caught here, past rows that name other classes: it goes on to the caller -/
theorem vx_outP {p : Program} {l : Launch} {e : Env} {R : Room} {s : State} {m : MethodId} {args : Array Value} {below : List Frame} {meth : Method} {c : Code} {H : Heap} {locs : List Loc} {cells slots : Nat} {free : Addr → Prop} {ls : Array Slot} {rest : List Value} {Qc : Array Value → State → Outcome → State → Prop} {XC : String → State → State → Prop}
    {pc : Nat} {own E : String} {ce : Cell} {q : Addr} {mc ms : Nat} (hown : s.vm.findClass own = some m.cls) (hlocks : meth.locks = false)
    (hpass : ∀ z ∈ c.exceptionTable.toList, covers z pc = false ∨ (z.catchType ≠ 0 ∧ ∃ nm : String, (Cond.classLink own z.catchType nm).before args s = true ∧ va_Nc E nm s)) (hcell : H[q]? = some ce) (hv : ce.vm = .none) (hcl : s.vm.findClass E = some ce.cls)
    (hx : ∀ t : State, t.heap = H → s.vm.Alike t.vm → XC E s t) (hf : ∀ z ∈ locs, free z.base) (hc : cells ≤ mc) (hs : slots ≤ ms) :
    vx_W p l e R s m args below meth c H locs cells slots (vx_MQ below Qc XC args s mc ms free) (F0 m pc ls rest) q := by
  intro T hT X
  have hpl : e.platform.magicAccessors = ({} : Platform).magicAccessors := by rw [X.admits.platform]
  obtain ⟨vm', hW', X', st⟩ := X.outThrough hlocks q (g := F0 m pc ls rest) rfl rfl rfl (cell := ce) (by rw [hT]; exact hcell) (by rw [hv]; rfl)
    (by obtain ⟨k9, h9, -⟩ := Vm.findClass_spec hcl; exact ⟨k9, h9⟩) (fun z hz => by
      rcases hpass z hz with h | ⟨hz0, nm, hl1, hn1⟩
      · exact Or.inl h
      · obtain ⟨c6, hc6, hcl6⟩ := Cond.classLink_spec hown hl1 e.platform hpl
        obtain ⟨a8, b8, h1, h2, h3⟩ := hn1
        cases Option.some.inj (h1.symm.trans hcl)
        cases Option.some.inj (h2.symm.trans hc6)
        exact Or.inr ⟨hz0, _, hcl6, h3⟩)
  obtain ⟨g₀, hfr⟩ := X'.frames_eq
  have hcell9 : ((T.setVm vm').setFrames (.throwing q :: below)).heap[q]? = some ce := by
    show T.heap[q]? = some ce
    rw [hT]; exact hcell
  have hend : Ended ((T.setVm vm').setFrames (.throwing q :: below)) below (.threw q) := State.frames_setFrames _ (State.cur_lt_of_frames hfr)
  refine ⟨(T.setVm vm').setFrames (.throwing q :: below), ?_, .threw q, X'.here.running, hend, Or.inr ⟨q, rfl, E, ce, locs, hx _ hT (X'.ends _).1.alike, hcell9, hv, hcl, (X'.ends _).1, (X'.ends _).2.mono hc hs, hf⟩⟩
  rw [X.pushThrowing_eq]
  exact st
/-- a thing of a world lies in the heap -/
theorem vx_lt {D : va_G} {cl : List vw_C} {ws : va_W} {H1 : Heap} (h : va_P D cl ws H1) {k : Nat} {q : Nat × va_E} (hk : ws[k]? = some q) : q.1 < H1.size := (h k q hk).lt
end VXS
/-! ===== END ===== -/
/-! ===== BEGIN methods with a table of their own: called by a name, returning or throwing ===== -/
section VXH
/-! vx_backW, vx_callVX, vx_callSX, vx_callVW, vx_runVW, vx_runVX, vx_runSX, vx_ofWH follow the same proofs as their sisters above (Free/Laws.lean, Shelf42/LK1.lean); vx_outP calls Shelf42/NT130.lean (outThrough). -/
section
variable {l : Launch} {R : Room} {p : Program} {e : Env} {below : List Frame} {s : State} {sargs : Array Value} {y : MethodName} {len W9 : Nat}
theorem vx_backW {ws : List Cond} {rm : Room} {Pc : Array Value → State → Prop} {Qc : Array Value → State → Outcome → State → Prop} {XC : String → State → State → Prop} {mc ms : Nat} {free : Addr → Prop} {bytes : ByteArray} {maxL : Nat} {ret : Option FieldType} {hh : List (Nat × Nat × Nat × Nat)}
    (hM : vx_Met l y ws rm Pc Qc XC mc ms free) (hblind : FrameBlind Pc) (hrc : rm.cells = mc) (hrs : rm.slots = ms)
    (hframes : rm.frames + 1 ≤ R.frames) (hlocals : W9 + (maxL + 11) + rm.locals ≤ R.locals)
    (hws : ∀ w ∈ ws, ∀ a' U, s.WarmedH U.vm → w.before a' U = true) (hcode : Cond.codeWith y bytes maxL ret hh ∈ ws) (hinit : ∀ a' U, s.WarmedH U.vm → (Cond.initialized y.cls).before a' U = true) :
    vx_Back l R p e below s sargs y len W9 (PreOf R mc ms Pc) (PostOf Qc mc ms free) (vx_Post XC mc ms free) := by
  intro m meth c A g ig mk a X hg hsize hdg hW hn hp
  have h1 : (headSpec ws rm).pre.before a A.U = true := atoms_intro fun w hw => hws w hw _ _ X.warmed
  have h2 : (Cond.codeWith y bytes maxL ret hh).before a A.U = true := hws _ hcode _ _ X.warmed
  have h3 : (Cond.initialized y.cls).before a A.U = true := hinit _ _ X.warmed
  have h4 : A.cells + (headSpec ws rm).room.cells ≤ R.cells := by rw [show (headSpec ws rm).room.cells = mc from hrc]; exact hp.1
  have h5 : A.slots + (headSpec ws rm).room.slots ≤ R.slots := by rw [show (headSpec ws rm).room.slots = ms from hrs]; exact hp.2.1
  have hPc : Pc a (A.U.calling g mk a) := hblind _ _ _ _ hp.2.2
  obtain ⟨U, Ls, c0, s0⟩ := A
  dsimp only [Pt.U, Pt.locs, Pt.cells, Pt.slots] at h1 h2 h3 h4 h5 X hn hPc ⊢
  obtain ⟨m9, methY, cY, hn9, hmY, hcY, -, hlY, -⟩ := Cond.codeWith_spec h2
  cases Option.some.inj (hn9.symm.trans hn)
  obtain ⟨kY, hkY, -⟩ := className_of_methodNamed hn
  have hinitY : kY.init = .initialized := Cond.initialized_spec (findClass_of_methodNamed hn) hkY h3
  have h : At U g.method c below := by rw [hg]; exact X.here
  have hlocals9 : W9 + (maxL + 11) + (headSpec ws rm).room.locals ≤ R.locals := hlocals
  have happ : (headSpec ws rm).appliesLoose y e.platform (U.calling g mk a) = true :=
    Spec.appliesLoose_calling (g := g) h hdg hn hkY hinitY
      (X.room_calling (g := g) (R' := (headSpec ws rm).room) hsize hmY hcY hframes (by rw [hlY]; omega) h4 h5) h1
  obtain ⟨mid, hmid⟩ := h.above
  have hfr : (U.setTop g).frames = (.java g :: mid) ++ below := by rw [State.frames_setTop' g h.top, hmid]; rfl
  obtain ⟨o, s₂, hsteps, -, hend, hq⟩ := Steps.callFree hM p X.admits X.cas X.clock (acts := []) hfr happ hPc trivial
  have hq' : vx_Q Qc XC mc ms free a (U.calling g mk a) o s₂ := hq
  rw [State.frames_setTop' g h.top] at hend
  obtain ⟨g₀, hg0⟩ := Option.isSome_iff_exists.mp h.top
  obtain ⟨r, hr⟩ := State.topJava?_eq_some.mp hg0
  have hr' : (({ U with heap := s₂.heap, slotsUsed := s₂.slotsUsed } : State).setVm s₂.vm).frames = .java g₀ :: r := hr
  rcases hq' with ⟨hqc, L, hfe, hL⟩ | ⟨q, rfl, E, ce, L, hx, hce, hcv, hcl, hW₂, hsm, hL⟩
  · obtain ⟨⟨v, rfl⟩, hW₂, e2, q2, q3, q4, q5, q6⟩ := id hfe
    have e3 : s₂ = ({ (U.calling g mk a).setFrames s₂.frames with heap := s₂.heap, slotsUsed := s₂.slotsUsed } : State).setVm s₂.vm := by
      have : s₂ = ({ s₂ with vm := (U.calling g mk a).vm } : State).setVm s₂.vm := rfl
      rw [e2] at this
      exact this
    obtain ⟨c₂, i₂, len₂, hc₂, hd₂, hf₂⟩ := hend
    have hW' : U.WarmedH s₂.vm := hW₂
    have hcc : c₂ = c := by
      have h1 : s₂.code? g.method = U.code? g.method := by
        rw [State.code?_eq, State.code?_eq, hW'.alike.method?]
      exact Option.some.inj (hc₂.symm.trans (h1.trans h.code))
    subst hcc
    have hlen : len₂ = len := by rw [hdg] at hd₂; cases hd₂; rfl
    subst hlen
    have hs₂ : s₂ = (({ U with heap := s₂.heap, slotsUsed := s₂.slotsUsed } : State).setVm s₂.vm).setTop { g with pc := g.pc + len₂, stack := v.toList ++ g.stack } := by
      refine e3.trans ?_
      rw [hf₂, State.calling_eq h.top, State.setFrames_setFrames, State.setTop_of_frames _ hr', hr]
      rfl
    have hsame : U.sameButNew ({ U with heap := s₂.heap, slotsUsed := s₂.slotsUsed } : State) L mc ms := by
      refine ⟨?_, q2, q3, q4, q5, q6⟩
      obtain ⟨t, ht, -⟩ := State.frames_cons hr
      show ({ U with heap := s₂.heap, slotsUsed := s₂.slotsUsed } : State) = { U.setFrames U.frames with heap := s₂.heap, slotsUsed := s₂.slotsUsed }
      rw [State.setFrames_self ht]
    subst hg
    refine Or.inl ⟨v, ⟨(({ U with heap := s₂.heap, slotsUsed := s₂.slotsUsed } : State).setVm s₂.vm), Ls ++ L, c0 + mc, s0 + ms⟩,
      ⟨X.admits, X.cas, X.clock, X.frames, X.room, X.hears, X.method, X.code, (X.here.setHeapUsed s₂.heap s₂.slotsUsed).setVm hW'.alike, X.tail, State.WarmedH.trans X.warmed hW', X.limits, X.bytes, X.same.trans (hsame.setVm s.vm)⟩,
      ⟨g, mk, s₂, L, rfl, rfl, hqc, rfl, hL, rfl, rfl⟩, ?_⟩
    show Steps p.tables e below _ ((({ U with heap := s₂.heap, slotsUsed := s₂.slotsUsed } : State).setVm s₂.vm).setTop { g with pc := g.pc + len₂, stack := v.toList ++ g.stack })
    rw [← hs₂]
    exact hsteps
  · obtain ⟨e2, q2, q3, q4, q5, q6⟩ := id hsm
    have e3 : s₂ = ({ (U.calling g mk a).setFrames s₂.frames with heap := s₂.heap, slotsUsed := s₂.slotsUsed } : State).setVm s₂.vm := by
      have : s₂ = ({ s₂ with vm := (U.calling g mk a).vm } : State).setVm s₂.vm := rfl
      rw [e2] at this
      exact this
    have hf₂ : s₂.frames = .throwing q :: .java g :: U.frames.tail := hend
    have hW' : U.WarmedH s₂.vm := hW₂
    have hs₂ : s₂ = ((({ U with heap := s₂.heap, slotsUsed := s₂.slotsUsed } : State).setVm s₂.vm).setTop g).pushFrame (.throwing q) := by
      refine e3.trans ?_
      rw [hf₂, State.calling_eq h.top, State.setFrames_setFrames, State.pushFrame, State.frames_setTop _ hr', State.setTop_of_frames _ hr', State.setFrames_setFrames, hr]
      rfl
    have hsame : U.sameButNew ({ U with heap := s₂.heap, slotsUsed := s₂.slotsUsed } : State) L mc ms := by
      refine ⟨?_, q2, q3, q4, q5, q6⟩
      obtain ⟨t, ht, -⟩ := State.frames_cons hr
      show ({ U with heap := s₂.heap, slotsUsed := s₂.slotsUsed } : State) = { U.setFrames U.frames with heap := s₂.heap, slotsUsed := s₂.slotsUsed }
      rw [State.setFrames_self ht]
    subst hg
    refine Or.inr ⟨q, ⟨(({ U with heap := s₂.heap, slotsUsed := s₂.slotsUsed } : State).setVm s₂.vm), Ls ++ L, c0 + mc, s0 + ms⟩,
      ⟨X.admits, X.cas, X.clock, X.frames, X.room, X.hears, X.method, X.code, (X.here.setHeapUsed s₂.heap s₂.slotsUsed).setVm hW'.alike, X.tail, State.WarmedH.trans X.warmed hW', X.limits, X.bytes, X.same.trans (hsame.setVm s.vm)⟩,
      ⟨g, mk, s₂, L, E, ce, rfl, rfl, hx, hce, hcv, hcl, rfl, hL, rfl, rfl⟩, ?_⟩
    show Steps p.tables e below _ (((({ U with heap := s₂.heap, slotsUsed := s₂.slotsUsed } : State).setVm s₂.vm).setTop g).pushFrame (.throwing q))
    rw [← hs₂]
    exact hsteps
end
variable {p : Program} {l : Launch} {e : Env} {R : Room} {s : State} {m : MethodId} {args : Array Value} {below : List Frame} {meth : Method} {c : Code} {T : State} {H : Heap} {locs : List Loc} {cells slots : Nat}
theorem vx_callVX (X : Stand p l e R s m args below meth c T locs cells slots) (hexec : p.tables.exec = Jvm.exec) {own C : String} {index : Nat} {y : MethodName} {bytes : ByteArray} {maxL : Nat} {ret : Option FieldType} {hh : List (Nat × Nat × Nat × Nat)}
    (hown : s.vm.findClass own = some m.cls) (hlink : (Cond.methodLink own index y).before args s = true) (hinst : (Cond.instanceMethod y).before args s = true) (hsel : (Cond.selects C y y).before args s = true)
    (hcode : (Cond.codeWith y bytes maxL ret hh).before args s = true) (hy : y.cls ≠ "java/lang/invoke/MethodHandle" ∧ y.cls ≠ "java/lang/invoke/VarHandle")
    {W9 : Nat} {Pre : Pt → Array Value → Prop} {Post : Pt → Array Value → Option Value → Pt → Prop} {PostX : Pt → Array Value → Addr → Pt → Prop} (hK : vx_Back l R p e below s args y 3 W9 Pre Post PostX)
    {b : Addr} {cellB : Cell} (hcell : T.heap[b]? = some cellB) (hobj : cellB.vm.isStatics = false) (hcls : s.vm.findClass C = some cellB.cls)
    {g : JFrame} (hg : g.method = m) (hsize : g.locals.size = c.maxLocals) {argsL rest : List Value} (hlen : ∀ sig, parseMethodDescriptor y.desc = some sig → argsL.length = sig.parameters.length)
    (hstack : g.stack = argsL.reverse ++ .ref b :: rest) (hW : 2 * g.monitorRoom + (rest.map fun v => v.category).sum ≤ W9) (hdg : decode c.code g.pc = .ok (.invokevirtual index, 3))
    (hpre : ∀ vm₁, s.WarmedH vm₁ → Pre ⟨T.setVm vm₁, locs, cells, slots⟩ (Value.ref b :: argsL).toArray) :
    (∃ (v : Option Value) (vm₁ : Vm) (B : Pt), s.WarmedH vm₁ ∧ Stand p l e R s m args below meth c B.U B.locs B.cells B.slots ∧ Post ⟨T.setVm vm₁, locs, cells, slots⟩ (Value.ref b :: argsL).toArray v B ∧
      ∀ target, Steps p.tables e below (B.U.setTop { g with pc := g.pc + 3, stack := v.toList ++ rest }) target → Steps p.tables e below (T.setTop g) target) ∨
    (∃ (q : Addr) (vm₁ : Vm) (B : Pt), s.WarmedH vm₁ ∧ Stand p l e R s m args below meth c B.U B.locs B.cells B.slots ∧ PostX ⟨T.setVm vm₁, locs, cells, slots⟩ (Value.ref b :: argsL).toArray q B ∧
      Steps p.tables e below (T.setTop g) ((B.U.setTop { g with stack := rest }).pushFrame (.throwing q))) := by
  obtain ⟨mk, methM, hnamed, hmethM, hstM, habM⟩ := Cond.instanceMethod_spec hinst
  obtain ⟨m8, methM', cM, hn8, hmethM', -, -, -, -, -, -, hsigM⟩ := Cond.codeWith_spec hcode
  cases Option.some.inj (hn8.symm.trans hnamed)
  cases hmethM.symm.trans hmethM'
  obtain ⟨c2, r2, m2, q1, q2, q3, q4, kP, hkP, hkPi⟩ := Cond.selects_spec hsel
  cases hcls.symm.trans q1
  cases (State.methodFound?_of_named hnamed hy).symm.trans q2
  cases hnamed.symm.trans q3
  have hselP : selectMethod e.platform s.vm cellB.cls mk = .method mk := by rw [Launch.admits_selectMethod X.admits]; exact q4
  obtain ⟨vm₁, X₁, hstep₁⟩ := X.invokevirtual hexec hown hlink hnamed hmethM hstM hkP hkPi hy (a := b) (cell := cellB) hcell
    (fun z h => by rw [h] at hobj; cases hobj) hselP hmethM habM hkP hkPi (g := g) hg (argsL := argsL) (rest := rest) (hlen _ hsigM) hstack hdg
  rcases hK m meth c ⟨T.setVm vm₁, locs, cells, slots⟩ { g with stack := rest } (.invokevirtual index) mk (Value.ref b :: argsL).toArray X₁ hg hsize hdg hW (X₁.named hnamed) (hpre vm₁ X₁.warmed) with ⟨v, B, X', hpost, hsteps⟩ | ⟨q, B, X', hpost, hsteps⟩
  · exact Or.inl ⟨v, vm₁, B, X₁.warmed, X', hpost, fun target h => hstep₁ _ fun acts => by rw [doInvoke_state]; exact hsteps.trans h⟩
  · exact Or.inr ⟨q, vm₁, B, X₁.warmed, X', hpost, hstep₁ _ fun acts => by rw [doInvoke_state]; exact hsteps⟩
theorem vx_callSX (X : Stand p l e R s m args below meth c T locs cells slots) (hexec : p.tables.exec = Jvm.exec) {own : String} {index : Nat} {y : MethodName} {bytes : ByteArray} {maxL : Nat} {ret : Option FieldType} {hh : List (Nat × Nat × Nat × Nat)}
    (hown : s.vm.findClass own = some m.cls) (hlink : (Cond.methodLink own index y).before args s = true) (hstat : (Cond.static y).before args s = true) (hinit : (Cond.initialized y.cls).before args s = true)
    (hcode : (Cond.codeWith y bytes maxL ret hh).before args s = true) (hy : y.cls ≠ "java/lang/invoke/MethodHandle" ∧ y.cls ≠ "java/lang/invoke/VarHandle")
    {W9 : Nat} {Pre : Pt → Array Value → Prop} {Post : Pt → Array Value → Option Value → Pt → Prop} {PostX : Pt → Array Value → Addr → Pt → Prop} (hK : vx_Back l R p e below s args y 3 W9 Pre Post PostX)
    {g : JFrame} (hg : g.method = m) (hsize : g.locals.size = c.maxLocals) {argsL rest : List Value} (hlen : ∀ sig, parseMethodDescriptor y.desc = some sig → argsL.length = sig.parameters.length)
    (hstack : g.stack = argsL.reverse ++ rest) (hW : 2 * g.monitorRoom + (rest.map fun v => v.category).sum ≤ W9) (hdg : decode c.code g.pc = .ok (.invokestatic index, 3))
    (hpre : ∀ vm₁, s.WarmedH vm₁ → Pre ⟨T.setVm vm₁, locs, cells, slots⟩ argsL.toArray) :
    (∃ (v : Option Value) (vm₁ : Vm) (B : Pt), s.WarmedH vm₁ ∧ Stand p l e R s m args below meth c B.U B.locs B.cells B.slots ∧ Post ⟨T.setVm vm₁, locs, cells, slots⟩ argsL.toArray v B ∧
      ∀ target, Steps p.tables e below (B.U.setTop { g with pc := g.pc + 3, stack := v.toList ++ rest }) target → Steps p.tables e below (T.setTop g) target) ∨
    (∃ (q : Addr) (vm₁ : Vm) (B : Pt), s.WarmedH vm₁ ∧ Stand p l e R s m args below meth c B.U B.locs B.cells B.slots ∧ PostX ⟨T.setVm vm₁, locs, cells, slots⟩ argsL.toArray q B ∧
      Steps p.tables e below (T.setTop g) ((B.U.setTop { g with stack := rest }).pushFrame (.throwing q))) := by
  obtain ⟨mk, methM, cM, hnamed, hmethM, -, -, -, -, -, -, hsigM⟩ := Cond.codeWith_spec hcode
  have hstatic : methM.isStatic = true := Cond.static_spec hnamed hmethM hstat
  obtain ⟨kP, hkP, -⟩ := className_of_methodNamed hnamed
  have hinitP : kP.init = .initialized := Cond.initialized_spec (findClass_of_methodNamed hnamed) hkP hinit
  obtain ⟨vm₁, X₁, hstep₁⟩ := X.invokestatic hexec hown hlink hnamed hmethM hstatic hkP hinitP hy (g := g) hg (argsL := argsL) (rest := rest) (hlen _ hsigM) hstack hdg
  rcases hK m meth c ⟨T.setVm vm₁, locs, cells, slots⟩ { g with stack := rest } (.invokestatic index) mk argsL.toArray X₁ hg hsize hdg hW (X₁.named hnamed) (hpre vm₁ X₁.warmed) with ⟨v, B, X', hpost, hsteps⟩ | ⟨q, B, X', hpost, hsteps⟩
  · exact Or.inl ⟨v, vm₁, B, X₁.warmed, X', hpost, fun target h => hstep₁ _ fun acts => by rw [doInvoke_state]; exact hsteps.trans h⟩
  · exact Or.inr ⟨q, vm₁, B, X₁.warmed, X', hpost, hstep₁ _ fun acts => by rw [doInvoke_state]; exact hsteps⟩
theorem vx_callVW (X : Stand p l e R s m args below meth c T locs cells slots) (hexec : p.tables.exec = Jvm.exec) {own C : String} {index : Nat} {y : MethodName} {bytes : ByteArray} {maxL : Nat} {ret : Option FieldType} {hh : List (Nat × Nat × Nat × Nat)}
    (hown : s.vm.findClass own = some m.cls) (hlink : (Cond.methodLink own index y).before args s = true) (hinst : (Cond.instanceMethod y).before args s = true) (hsel : (Cond.selects C y y).before args s = true)
    (hcode : (Cond.codeWith y bytes maxL ret hh).before args s = true) (hy : y.cls ≠ "java/lang/invoke/MethodHandle" ∧ y.cls ≠ "java/lang/invoke/VarHandle")
    {W9 : Nat} {Pre : Pt → Array Value → Prop} {Post : Pt → Array Value → Option Value → Pt → Prop} (hK : Back l R p e below s args y 3 W9 Pre Post)
    {b : Addr} {cellB : Cell} (hcell : T.heap[b]? = some cellB) (hobj : cellB.vm.isStatics = false) (hcls : s.vm.findClass C = some cellB.cls)
    {g : JFrame} (hg : g.method = m) (hsize : g.locals.size = c.maxLocals) {argsL rest : List Value} (hlen : ∀ sig, parseMethodDescriptor y.desc = some sig → argsL.length = sig.parameters.length)
    (hstack : g.stack = argsL.reverse ++ .ref b :: rest) (hW : 2 * g.monitorRoom + (rest.map fun v => v.category).sum ≤ W9) (hdg : decode c.code g.pc = .ok (.invokevirtual index, 3))
    (hpre : ∀ vm₁, s.WarmedH vm₁ → Pre ⟨T.setVm vm₁, locs, cells, slots⟩ (Value.ref b :: argsL).toArray) :
    ∃ (v : Option Value) (vm₁ : Vm) (B : Pt), s.WarmedH vm₁ ∧ Stand p l e R s m args below meth c B.U B.locs B.cells B.slots ∧ Post ⟨T.setVm vm₁, locs, cells, slots⟩ (Value.ref b :: argsL).toArray v B ∧
      ∀ target, Steps p.tables e below (B.U.setTop { g with pc := g.pc + 3, stack := v.toList ++ rest }) target → Steps p.tables e below (T.setTop g) target := by
  obtain ⟨mk, methM, hnamed, hmethM, hstM, habM⟩ := Cond.instanceMethod_spec hinst
  obtain ⟨m8, methM', cM, hn8, hmethM', -, -, -, -, -, -, hsigM⟩ := Cond.codeWith_spec hcode
  cases Option.some.inj (hn8.symm.trans hnamed)
  cases hmethM.symm.trans hmethM'
  obtain ⟨c2, r2, m2, q1, q2, q3, q4, kP, hkP, hkPi⟩ := Cond.selects_spec hsel
  cases hcls.symm.trans q1
  cases (State.methodFound?_of_named hnamed hy).symm.trans q2
  cases hnamed.symm.trans q3
  have hselP : selectMethod e.platform s.vm cellB.cls mk = .method mk := by rw [Launch.admits_selectMethod X.admits]; exact q4
  obtain ⟨vm₁, X₁, hstep₁⟩ := X.invokevirtual hexec hown hlink hnamed hmethM hstM hkP hkPi hy (a := b) (cell := cellB) hcell
    (fun z h => by rw [h] at hobj; cases hobj) hselP hmethM habM hkP hkPi (g := g) hg (argsL := argsL) (rest := rest) (hlen _ hsigM) hstack hdg
  obtain ⟨v, B, X', hpost, hsteps⟩ := hK m meth c ⟨T.setVm vm₁, locs, cells, slots⟩ { g with stack := rest } (.invokevirtual index) mk (Value.ref b :: argsL).toArray X₁ hg hsize hdg hW (X₁.named hnamed) (hpre vm₁ X₁.warmed)
  exact ⟨v, vm₁, B, X₁.warmed, X', hpost, fun target h => hstep₁ _ fun acts => by rw [doInvoke_state]; exact hsteps.trans h⟩
abbrev vx_CVW (R : Room) (s : State) (args : Array Value) (own C : String) (index : Nat) (y : MethodName) (bytes : ByteArray) (maxL : Nat) (ret : Option FieldType) (hh : List (Nat × Nat × Nat × Nat)) (ws : List Cond) (rm : Room) (mc ms n : Nat) : Prop :=
  (rm.cells = mc ∧ rm.slots = ms ∧ rm.frames + 1 ≤ R.frames ∧ 8 + (maxL + 11) + rm.locals ≤ R.locals ∧ (∀ w ∈ ws, ∀ (a' : Array Value) (U : State), s.WarmedH U.vm → w.before a' U = true) ∧ Cond.codeWith y bytes maxL ret hh ∈ ws) ∧
  (Cond.codeWith y bytes maxL ret hh).before args s = true ∧ (Cond.initialized y.cls).before args s = true ∧ (y.cls ≠ "java/lang/invoke/MethodHandle" ∧ y.cls ≠ "java/lang/invoke/VarHandle") ∧
  (∀ sig, parseMethodDescriptor y.desc = some sig → n = sig.parameters.length) ∧ (Cond.methodLink own index y).before args s = true ∧ (Cond.instanceMethod y).before args s = true ∧ (Cond.selects C y y).before args s = true
theorem vx_cwVW {own C : String} {index maxL mc ms : Nat} {y : MethodName} {bytes : ByteArray} {ret : Option FieldType} {hh : List (Nat × Nat × Nat × Nat)} {Ts ws ws' : List Cond} {rm : Room} (n : Nat) (ht : ∀ w ∈ Ts, w.before args s = true) (hT : GoodIn Ts (wsV own index C y ws)) (hw : ws = Cond.codeWith y bytes maxL ret hh :: ws') (hrc : rm.cells = mc) (hrs : rm.slots = ms)
    (hd : y.cls = C ∧ y.cls ≠ "java/lang/invoke/MethodHandle" ∧ y.cls ≠ "java/lang/invoke/VarHandle" ∧ (parseMethodDescriptor y.desc).map (fun d => d.parameters.length) = some n) (hR : rm.frames + 1 ≤ R.frames ∧ 8 + (maxL + 11) + rm.locals ≤ R.locals) :
    vx_CVW R s args own C index y bytes maxL ret hh ws rm mc ms n := by
  obtain ⟨hC, hd⟩ := hd
  subst hC
  have ok : ∀ w ∈ wsV own index y.cls y ws, w.before args s = true := fun w h => ht w (hT w h).1
  have hG : GoodIn Ts ws := fun w h => hT w (by unfold wsV; exact List.mem_append_right _ h)
  have hc : Cond.codeWith y bytes maxL ret hh ∈ ws := by rw [hw]; exact List.mem_cons_self
  refine ⟨⟨hrc, hrs, hR.1, hR.2, pay_in ht hG, hc⟩, ht _ (hG _ hc).1, ok _ (by simp [wsV]), ⟨hd.1, hd.2.1⟩, fun sig h => ?_, ok _ (by simp [wsV]), ok _ (by simp [wsV]), ok _ (by simp [wsV])⟩
  have h2 := hd.2.2
  rw [h] at h2
  exact (Option.some.inj h2).symm
theorem vx_runVW {y : MethodName} {bytes cc : ByteArray} {maxL nL mc ms n index : Nat} {ret : Option FieldType} {hh : List (Nat × Nat × Nat × Nat)} {ws : List Cond} {rm : Room} {Pc : Array Value → State → Prop} {Qc : Array Value → State → Outcome → State → Prop} {free : Addr → Prop} {Ts : List Cond} {own C : String} {b : Addr} {As rest : List Value} {g : JFrame}
    (S : CallFix p m c cc nL s args Ts own) (hM : Met l y ws rm Pc Qc mc ms free) (cw : vx_CVW R s args own C index y bytes maxL ret hh ws rm mc ms n) (hp : PreV s H C b Pc As)
    (hg : g.method = m) (hn : As.length = n) (hsize : g.locals.size = nL) (hstack : g.stack = As.reverse ++ .ref b :: rest) (hW : 2 * g.monitorRoom + (rest.map fun v => v.category).sum ≤ 8) (hdg : decode cc g.pc = .ok (.invokevirtual index, 3)) (hf : cells + mc ≤ R.cells ∧ slots + ms ≤ R.slots) :
    va_Run p l e R s m args below meth c H locs cells slots mc ms g rest (Qc (Value.ref b :: As).toArray) free := by
  obtain ⟨⟨hrc, hrs, hfr, hlo, hws, hcw⟩, hcode, hini, hy, hlen, hl, hin, hse⟩ := cw
  have hK : Back l R p e below s args y 3 8 (PreOf R mc ms Pc) (PostOf Qc mc ms free) := va_backW (hh := hh) (bytes := bytes) (maxL := maxL) (ret := ret) hM hp.1 hrc hrs hfr hlo hws hcw (fun a' U hW => word_at hW (Or.inl (by first | rfl | simp [Cond.onTables, Cond.keeps, Cond.steady])) hini)
  obtain ⟨hx, hb, hml, ho, -⟩ := S
  obtain ⟨-, ⟨cellB, hcB, hoB, hclB⟩, hPc⟩ := hp
  intro T hT X
  obtain ⟨v, vm₁, ⟨U', l2, c2, s2⟩, hW₁, X', ⟨g', mk, t, L, e1, e2, hq, h1, hL, h2, h3⟩, st⟩ := vx_callVW X hx (C := C) (hh := hh) (bytes := bytes) (maxL := maxL) (ret := ret) ho hl hin hse hcode hy hK (by rw [hT]; exact hcB) hoB hclB hg (hsize.trans hml.symm) (argsL := As) (rest := rest) (fun sig h => hn.trans (hlen sig h)) hstack hW (by rw [hb]; exact hdg)
    (fun vm₁ hW₁ => ⟨hf.1, hf.2, hPc (T.setVm vm₁) hT hW₁⟩)
  dsimp only [Pt.U, Pt.locs, Pt.cells, Pt.slots] at X' e1 e2 h1 h2 h3 st
  subst h1; subst h2; subst h3
  exact ⟨v, (T.setVm vm₁).calling g' mk (Value.ref b :: As).toArray, t, U', L, hT, X', hL, e1, e2, hq, st⟩
section
variable {y : MethodName} {bytes cc : ByteArray} {maxL nL mc ms n index : Nat} {ret : Option FieldType} {ws : List Cond} {rm : Room} {Pc : Array Value → State → Prop} {Qc : Array Value → State → Outcome → State → Prop} {XC : String → State → State → Prop} {free : Addr → Prop} {Ts : List Cond} {own C : String} {b : Addr} {As rest : List Value} {g : JFrame}
theorem vx_runVX {hh : List (Nat × Nat × Nat × Nat)} (S : CallFix p m c cc nL s args Ts own) (hM : vx_Met l y ws rm Pc Qc XC mc ms free) (cw : vx_CVW R s args own C index y bytes maxL ret hh ws rm mc ms n) (hp : PreV s H C b Pc As)
    (hg : g.method = m) (hn : As.length = n) (hsize : g.locals.size = nL) (hstack : g.stack = As.reverse ++ .ref b :: rest) (hW : 2 * g.monitorRoom + (rest.map fun v => v.category).sum ≤ 8) (hdg : decode cc g.pc = .ok (.invokevirtual index, 3)) (hf : cells + mc ≤ R.cells ∧ slots + ms ≤ R.slots) :
    vx_Run p l e R s m args below meth c H locs cells slots mc ms g rest (Qc (Value.ref b :: As).toArray) XC free := by
  obtain ⟨⟨hrc, hrs, hfr, hlo, hws, hcw⟩, hcode, hini, hy, hlen, hl, hin, hse⟩ := cw
  have hK : vx_Back l R p e below s args y 3 8 (PreOf R mc ms Pc) (PostOf Qc mc ms free) (vx_Post XC mc ms free) := vx_backW (hh := hh) (bytes := bytes) (maxL := maxL) (ret := ret) hM hp.1 hrc hrs hfr hlo hws hcw (fun a' U hW => word_at hW (Or.inl (by first | rfl | simp [Cond.onTables, Cond.keeps, Cond.steady])) hini)
  obtain ⟨hx, hb, hml, ho, -⟩ := S
  obtain ⟨-, ⟨cellB, hcB, hoB, hclB⟩, hPc⟩ := hp
  intro T hT X
  rcases vx_callVX X hx (C := C) (hh := hh) (bytes := bytes) (maxL := maxL) (ret := ret) ho hl hin hse hcode hy hK (by rw [hT]; exact hcB) hoB hclB hg (hsize.trans hml.symm) (argsL := As) (rest := rest) (fun sig h => hn.trans (hlen sig h)) hstack hW (by rw [hb]; exact hdg)
    (fun vm₁ hW₁ => ⟨hf.1, hf.2, hPc (T.setVm vm₁) hT hW₁⟩) with ⟨v, vm₁, ⟨U', l2, c2, s2⟩, hW₁, X', ⟨g', mk, t, L, e1, e2, hq, h1, hL, h2, h3⟩, st⟩ | ⟨q, vm₁, ⟨U', l2, c2, s2⟩, hW₁, X', ⟨g', mk, t, L, E, ce, e1, e2, hq, hce, hcv, hcl, h1, hL, h2, h3⟩, st⟩
  · dsimp only [Pt.U, Pt.locs, Pt.cells, Pt.slots] at X' e1 e2 h1 h2 h3 st
    subst h1; subst h2; subst h3
    exact Or.inl ⟨v, (T.setVm vm₁).calling g' mk (Value.ref b :: As).toArray, t, U', L, hT, X', hL, e1, e2, hq, st⟩
  · dsimp only [Pt.U, Pt.locs, Pt.cells, Pt.slots] at X' e1 e2 h1 h2 h3 st hcl
    subst h1; subst h2; subst h3
    exact Or.inr ⟨q, (T.setVm vm₁).calling g' mk (Value.ref b :: As).toArray, t, U', L, E, ce, hT, X', hL, e1, e2, hq, hce, hcv, vx_cls hW₁ hcl, st⟩
theorem vx_runSX {hh : List (Nat × Nat × Nat × Nat)} (S : CallFix p m c cc nL s args Ts own) (hM : vx_Met l y ws rm Pc Qc XC mc ms free) (cw : vx_CSW R s args own index y bytes maxL ret hh ws rm mc ms n) (hp : PreS s H Pc As)
    (hg : g.method = m) (hn : As.length = n) (hsize : g.locals.size = nL) (hstack : g.stack = As.reverse ++ rest) (hW : 2 * g.monitorRoom + (rest.map fun v => v.category).sum ≤ 8) (hdg : decode cc g.pc = .ok (.invokestatic index, 3)) (hf : cells + mc ≤ R.cells ∧ slots + ms ≤ R.slots) :
    vx_Run p l e R s m args below meth c H locs cells slots mc ms g rest (Qc As.toArray) XC free := by
  obtain ⟨⟨hrc, hrs, hfr, hlo, hws, hcw⟩, hcode, hini, hy, hlen, hl, hstt⟩ := cw
  have hK : vx_Back l R p e below s args y 3 8 (PreOf R mc ms Pc) (PostOf Qc mc ms free) (vx_Post XC mc ms free) := vx_backW (hh := hh) (bytes := bytes) (maxL := maxL) (ret := ret) hM hp.1 hrc hrs hfr hlo hws hcw (fun a' U hW => word_at hW (Or.inl (by first | rfl | simp [Cond.onTables, Cond.keeps, Cond.steady])) hini)
  obtain ⟨hx, hb, hml, ho, -⟩ := S
  intro T hT X
  rcases vx_callSX X hx (hh := hh) (bytes := bytes) (maxL := maxL) (ret := ret) ho hl hstt hini hcode hy hK hg (hsize.trans hml.symm) (argsL := As) (rest := rest) (fun sig h => hn.trans (hlen sig h)) hstack hW (by rw [hb]; exact hdg)
    (fun vm₁ hW₁ => ⟨hf.1, hf.2, hp.2 (T.setVm vm₁) hT hW₁⟩) with ⟨v, vm₁, ⟨U', l2, c2, s2⟩, hW₁, X', ⟨g', mk, t, L, e1, e2, hq, h1, hL, h2, h3⟩, st⟩ | ⟨q, vm₁, ⟨U', l2, c2, s2⟩, hW₁, X', ⟨g', mk, t, L, E, ce, e1, e2, hq, hce, hcv, hcl, h1, hL, h2, h3⟩, st⟩
  · dsimp only [Pt.U, Pt.locs, Pt.cells, Pt.slots] at X' e1 e2 h1 h2 h3 st
    subst h1; subst h2; subst h3
    exact Or.inl ⟨v, (T.setVm vm₁).calling g' mk As.toArray, t, U', L, hT, X', hL, e1, e2, hq, st⟩
  · dsimp only [Pt.U, Pt.locs, Pt.cells, Pt.slots] at X' e1 e2 h1 h2 h3 st hcl
    subst h1; subst h2; subst h3
    exact Or.inr ⟨q, (T.setVm vm₁).calling g' mk As.toArray, t, U', L, E, ce, hT, X', hL, e1, e2, hq, hce, hcv, vx_cls hW₁ hcl, st⟩
end
end VXH
theorem vx_ofWH {l : Launch} {y : MethodName} {ws ws' : List Cond} {rm : Room} {Pc : Array Value → State → Prop} {Qc : Array Value → State → Outcome → State → Prop} {XC : String → State → State → Prop} {mc ms : Nat} {free : Addr → Prop} {cc : ByteArray} {maxL : Nat} {ret : Option FieldType} {hh : List (Nat × Nat × Nat × Nat)}
    (hy : plainName y.cls = true) (hw : ws = Cond.codeWith y cc maxL ret hh :: ws')
    (body : ∀ p e s m args below meth c s₁, BodyLoose p l y (headSpec ws rm) cc maxL ret e s m args below meth c s₁ → c.maxLocals = maxL → Pc args s →
      W p l e (headSpec ws rm).room s m args below meth c s.heap [] 0 0 (vx_MQ below Qc XC args s mc ms free) (entryFrame m args maxL)) : vx_Met l y ws rm Pc Qc XC mc ms free := by
  refine MetFree.of_bodyS (code := cc) (maxLocals := maxL) (ret := ret) hy ?_ ?_
  · intro args s m h hn
    obtain ⟨m9, meth, c, hn9, h1, h2, h3, h4, -, h5, h6, -⟩ := Cond.codeWith_spec (atoms_spec (ws := ws) h _ (by rw [hw]; exact List.mem_cons_self))
    cases hn.symm.trans hn9
    exact ⟨meth, c, h1, h2, h3, h4, h5, h6⟩
  · intro p e s m args below meth c s₁ B hml hP _
    have hh0 : s₁.heap = s.heap := by rw [B.state]; rfl
    obtain ⟨t, a1, o, b1, b2, b3⟩ := body p e s m args below meth c s₁ B hml hP s₁ hh0 (Stand.of_body B)
    exact ⟨t, o, a1, b1, b2, b3⟩
/-! ===== END ===== -/
end
section
/-! ===== BEGIN printed: names, fields, word lists, decode rows ===== -/
def RX0 : String := "ParoleCards$Offence"
def TX0 : u_T := fun k => match k with
  | 0 => ("ParoleCards$Offence", "day", "I", true)
  | 1 => ("ParoleCards$Offence", "days", "I", true)
  | 2 => ("ParoleCards$Offence", "loweredRegime", "Z", true)
  | _ => ("ParoleCards$Offence", "appealed", "Z", false)
def tyX0 : Nat → FieldType := fun k => match k with
  | 0 => .int
  | 1 => .int
  | 2 => .boolean
  | _ => .boolean
abbrev wsX00 : List Cond := u_ws RX0 TX0 4
theorem nmX0 : ∀ a, a < 4 → ∀ b, b < 4 → a ≠ b → (TX0 a).2.1 ≠ (TX0 b).2.1 := by decide +kernel
theorem tyX0_ok : ∀ k, k < 4 → parseFieldDescriptor (TX0 k).2.2.1 = some (tyX0 k) := by decide +kernel
abbrev cX0_init : ByteArray := prog_2_method_1_code
def yX0_init : MethodName := ⟨RX0, "<init>", "(IIZ)V"⟩
abbrev cX0_lowersLimitOn : ByteArray := prog_2_method_2_code
def yX0_lowersLimitOn : MethodName := ⟨RX0, "lowersLimitOn", "(I)Z"⟩
def RX1 : String := "ParoleCards$Order"
def TX1 : u_T := fun k => match k with
  | 0 => ("ParoleCards$Order", "number", "I", true)
  | 1 => ("ParoleCards$Order", "skill", "I", true)
  | 2 => ("ParoleCards$Order", "tools", "LParoleCards$ToolKind;", true)
  | 3 => ("ParoleCards$Order", "wage", "I", true)
  | 4 => ("ParoleCards$Order", "workLeft", "I", false)
  | _ => ("ParoleCards$Order", "peopleOnIt", "I", false)
def tyX1 : Nat → FieldType := fun k => match k with
  | 0 => .int
  | 1 => .int
  | 2 => .object "ParoleCards$ToolKind"
  | 3 => .int
  | 4 => .int
  | _ => .int
abbrev wsX10 : List Cond := u_ws RX1 TX1 6
theorem nmX1 : ∀ a, a < 6 → ∀ b, b < 6 → a ≠ b → (TX1 a).2.1 ≠ (TX1 b).2.1 := by decide +kernel
theorem tyX1_ok : ∀ k, k < 6 → parseFieldDescriptor (TX1 k).2.2.1 = some (tyX1 k) := by decide +kernel
abbrev cX1_init : ByteArray := prog_3_method_1_code
def yX1_init : MethodName := ⟨RX1, "<init>", "(IILParoleCards$ToolKind;II)V"⟩
abbrev cX1_isFinished : ByteArray := prog_3_method_2_code
def yX1_isFinished : MethodName := ⟨RX1, "isFinished", "()Z"⟩
abbrev cX1_hasFreeTool : ByteArray := prog_3_method_3_code
def yX1_hasFreeTool : MethodName := ⟨RX1, "hasFreeTool", "()Z"⟩
def RX2 : String := "ParoleCards$Person"
def TX2 : u_T := fun k => match k with
  | 0 => ("ParoleCards$Person", "admittedOn", "I", true)
  | 1 => ("ParoleCards$Person", "term", "I", true)
  | 2 => ("ParoleCards$Person", "skills", "I", false)
  | 3 => ("ParoleCards$Person", "regimeNow", "I", false)
  | 4 => ("ParoleCards$Person", "workedDays", "I", false)
  | 5 => ("ParoleCards$Person", "courseCount", "I", false)
  | 6 => ("ParoleCards$Person", "courseDays", "I", false)
  | 7 => ("ParoleCards$Person", "offences", "[LParoleCards$Offence;", true)
  | 8 => ("ParoleCards$Person", "offenceCount", "I", false)
  | 9 => ("ParoleCards$Person", "lostDays", "I", false)
  | 10 => ("ParoleCards$Person", "order", "LParoleCards$Order;", false)
  | 11 => ("ParoleCards$Person", "purse", "LParoleCards$Purse;", true)
  | 12 => ("ParoleCards$Person", "released", "Z", false)
  | _ => ("ParoleCards$Person", "releasedOn", "I", false)
def tyX2 : Nat → FieldType := fun k => match k with
  | 0 => .int
  | 1 => .int
  | 2 => .int
  | 3 => .int
  | 4 => .int
  | 5 => .int
  | 6 => .int
  | 7 => .array (.object "ParoleCards$Offence")
  | 8 => .int
  | 9 => .int
  | 10 => .object "ParoleCards$Order"
  | 11 => .object "ParoleCards$Purse"
  | 12 => .boolean
  | _ => .int
abbrev wsX20 : List Cond := u_ws RX2 TX2 14
theorem nmX2 : ∀ a, a < 14 → ∀ b, b < 14 → a ≠ b → (TX2 a).2.1 ≠ (TX2 b).2.1 := by decide +kernel
theorem tyX2_ok : ∀ k, k < 14 → parseFieldDescriptor (TX2 k).2.2.1 = some (tyX2 k) := by decide +kernel
abbrev cX2_init : ByteArray := prog_4_method_1_code
def yX2_init : MethodName := ⟨RX2, "<init>", "(III)V"⟩
abbrev cX2_gainedDays : ByteArray := prog_4_method_2_code
def yX2_gainedDays : MethodName := ⟨RX2, "gainedDays", "()I"⟩
abbrev cX2_releaseDay : ByteArray := prog_4_method_3_code
def yX2_releaseDay : MethodName := ⟨RX2, "releaseDay", "()I"⟩
abbrev cX2_hasSkill : ByteArray := prog_4_method_4_code
def yX2_hasSkill : MethodName := ⟨RX2, "hasSkill", "(I)Z"⟩
abbrev cX2_hasRoomForPaper : ByteArray := prog_4_method_5_code
def yX2_hasRoomForPaper : MethodName := ⟨RX2, "hasRoomForPaper", "()Z"⟩
abbrev cX2_raiseRegime : ByteArray := prog_4_method_6_code
def yX2_raiseRegime : MethodName := ⟨RX2, "raiseRegime", "()V"⟩
abbrev cX2_enterCourse : ByteArray := prog_4_method_7_code
def yX2_enterCourse : MethodName := ⟨RX2, "enterCourse", "(II)V"⟩
abbrev cX2_enterOffence : ByteArray := prog_4_method_8_code
def yX2_enterOffence : MethodName := ⟨RX2, "enterOffence", "(II)I"⟩
abbrev cX2_appealOffence : ByteArray := prog_4_method_9_code
def yX2_appealOffence : MethodName := ⟨RX2, "appealOffence", "(LParoleCards$Offence;)V"⟩
abbrev cX2_joinOrder : ByteArray := prog_4_method_10_code
def yX2_joinOrder : MethodName := ⟨RX2, "joinOrder", "(LParoleCards$Order;)V"⟩
abbrev cX2_leaveOrder : ByteArray := prog_4_method_11_code
def yX2_leaveOrder : MethodName := ⟨RX2, "leaveOrder", "()V"⟩
abbrev cX2_leaveFinishedOrder : ByteArray := prog_4_method_12_code
def yX2_leaveFinishedOrder : MethodName := ⟨RX2, "leaveFinishedOrder", "()V"⟩
abbrev cX2_workOneDay : ByteArray := prog_4_method_13_code
def yX2_workOneDay : MethodName := ⟨RX2, "workOneDay", "()V"⟩
abbrev cX2_limitOfSpan : ByteArray := prog_4_method_14_code
def yX2_limitOfSpan : MethodName := ⟨RX2, "limitOfSpan", "(I)I"⟩
abbrev cX2_mayStillBuy : ByteArray := prog_4_method_15_code
def yX2_mayStillBuy : MethodName := ⟨RX2, "mayStillBuy", "(I)I"⟩
abbrev cX2_isDue : ByteArray := prog_4_method_16_code
def yX2_isDue : MethodName := ⟨RX2, "isDue", "(I)Z"⟩
abbrev cX2_letGo : ByteArray := prog_4_method_17_code
def yX2_letGo : MethodName := ⟨RX2, "letGo", "(I)V"⟩
def RX3 : String := "ParoleCards$Purse"
def TX3 : u_T := fun k => match k with
  | 0 => ("ParoleCards$Purse", "accounts", "[I", true)
  | 1 => ("ParoleCards$Purse", "lastSpan", "I", false)
  | 2 => ("ParoleCards$Purse", "boughtInLastSpan", "I", false)
  | _ => ("ParoleCards$Purse", "paidOutSum", "I", false)
def tyX3 : Nat → FieldType := fun k => match k with
  | 0 => .array .int
  | 1 => .int
  | 2 => .int
  | _ => .int
abbrev wsX30 : List Cond := u_ws RX3 TX3 4
theorem nmX3 : ∀ a, a < 4 → ∀ b, b < 4 → a ≠ b → (TX3 a).2.1 ≠ (TX3 b).2.1 := by decide +kernel
theorem tyX3_ok : ∀ k, k < 4 → parseFieldDescriptor (TX3 k).2.2.1 = some (tyX3 k) := by decide +kernel
abbrev cX3_init : ByteArray := prog_5_method_1_code
def yX3_init : MethodName := ⟨RX3, "<init>", "()V"⟩
abbrev cX3_partWage : ByteArray := prog_5_method_2_code
def yX3_partWage : MethodName := ⟨RX3, "partWage", "(I)V"⟩
abbrev cX3_boughtInSpan : ByteArray := prog_5_method_3_code
def yX3_boughtInSpan : MethodName := ⟨RX3, "boughtInSpan", "(I)I"⟩
abbrev cX3_spend : ByteArray := prog_5_method_4_code
def yX3_spend : MethodName := ⟨RX3, "spend", "(II)V"⟩
abbrev cX3_payOut : ByteArray := prog_5_method_5_code
def yX3_payOut : MethodName := ⟨RX3, "payOut", "()V"⟩
def RX4 : String := "ParoleCards$ToolKind"
def TX4 : u_T := fun k => match k with
  | 0 => ("ParoleCards$ToolKind", "count", "I", false)
  | _ => ("ParoleCards$ToolKind", "countedOut", "I", false)
def tyX4 : Nat → FieldType := fun k => match k with
  | 0 => .int
  | _ => .int
abbrev wsX40 : List Cond := u_ws RX4 TX4 2
theorem nmX4 : ∀ a, a < 2 → ∀ b, b < 2 → a ≠ b → (TX4 a).2.1 ≠ (TX4 b).2.1 := by decide +kernel
theorem tyX4_ok : ∀ k, k < 2 → parseFieldDescriptor (TX4 k).2.2.1 = some (tyX4 k) := by decide +kernel
abbrev cX4_init : ByteArray := prog_6_method_1_code
def yX4_init : MethodName := ⟨RX4, "<init>", "()V"⟩
def RX5 : String := "ParoleCards"
def TX5 : u_T := fun k => match k with
  | 0 => ("ParoleCards", "people", "[LParoleCards$Person;", true)
  | 1 => ("ParoleCards", "orders", "[LParoleCards$Order;", true)
  | 2 => ("ParoleCards", "toolKinds", "[LParoleCards$ToolKind;", true)
  | 3 => ("ParoleCards", "personCount", "I", false)
  | 4 => ("ParoleCards", "orderCount", "I", false)
  | _ => ("ParoleCards", "today", "I", false)
def tyX5 : Nat → FieldType := fun k => match k with
  | 0 => .array (.object "ParoleCards$Person")
  | 1 => .array (.object "ParoleCards$Order")
  | 2 => .array (.object "ParoleCards$ToolKind")
  | 3 => .int
  | 4 => .int
  | _ => .int
abbrev wsX50 : List Cond := u_ws RX5 TX5 6
theorem nmX5 : ∀ a, a < 6 → ∀ b, b < 6 → a ≠ b → (TX5 a).2.1 ≠ (TX5 b).2.1 := by decide +kernel
theorem tyX5_ok : ∀ k, k < 6 → parseFieldDescriptor (TX5 k).2.2.1 = some (tyX5 k) := by decide +kernel
abbrev cX5_init : ByteArray := prog_1_method_1_code
def yX5_init : MethodName := ⟨RX5, "<init>", "()V"⟩
abbrev cX5_admit : ByteArray := prog_1_method_2_code
def yX5_admit : MethodName := ⟨RX5, "admit", "(II)I"⟩
abbrev cX5_course : ByteArray := prog_1_method_3_code
def yX5_course : MethodName := ⟨RX5, "course", "(III)I"⟩
abbrev cX5_offence : ByteArray := prog_1_method_4_code
def yX5_offence : MethodName := ⟨RX5, "offence", "(II)I"⟩
abbrev cX5_appeal : ByteArray := prog_1_method_5_code
def yX5_appeal : MethodName := ⟨RX5, "appeal", "(II)I"⟩
abbrev cX5_release : ByteArray := prog_1_method_6_code
def yX5_release : MethodName := ⟨RX5, "release", "(I)I"⟩
abbrev cX5_isIn : ByteArray := prog_1_method_7_code
def yX5_isIn : MethodName := ⟨RX5, "isIn", "(I)Z"⟩
abbrev cX5_regime : ByteArray := prog_1_method_8_code
def yX5_regime : MethodName := ⟨RX5, "regime", "(I)I"⟩
abbrev cX5_papers : ByteArray := prog_1_method_9_code
def yX5_papers : MethodName := ⟨RX5, "papers", "(IZ)I"⟩
abbrev cX5_setTools : ByteArray := prog_1_method_10_code
def yX5_setTools : MethodName := ⟨RX5, "setTools", "(II)I"⟩
abbrev cX5_toolsOut : ByteArray := prog_1_method_11_code
def yX5_toolsOut : MethodName := ⟨RX5, "toolsOut", "(I)I"⟩
abbrev cX5_addOrder : ByteArray := prog_1_method_12_code
def yX5_addOrder : MethodName := ⟨RX5, "addOrder", "(IIII)I"⟩
abbrev cX5_assign : ByteArray := prog_1_method_13_code
def yX5_assign : MethodName := ⟨RX5, "assign", "(II)I"⟩
abbrev cX5_takeOff : ByteArray := prog_1_method_14_code
def yX5_takeOff : MethodName := ⟨RX5, "takeOff", "(I)I"⟩
abbrev cX5_orderOf : ByteArray := prog_1_method_15_code
def yX5_orderOf : MethodName := ⟨RX5, "orderOf", "(I)I"⟩
abbrev cX5_left : ByteArray := prog_1_method_16_code
def yX5_left : MethodName := ⟨RX5, "left", "(I)I"⟩
abbrev cX5_account : ByteArray := prog_1_method_17_code
def yX5_account : MethodName := ⟨RX5, "account", "(II)I"⟩
abbrev cX5_buy : ByteArray := prog_1_method_18_code
def yX5_buy : MethodName := ⟨RX5, "buy", "(II)I"⟩
abbrev cX5_limit : ByteArray := prog_1_method_19_code
def yX5_limit : MethodName := ⟨RX5, "limit", "(I)I"⟩
abbrev cX5_paidOut : ByteArray := prog_1_method_20_code
def yX5_paidOut : MethodName := ⟨RX5, "paidOut", "(I)I"⟩
abbrev cX5_pass : ByteArray := prog_1_method_21_code
def yX5_pass : MethodName := ⟨RX5, "pass", "(I)I"⟩
abbrev cX5_workInTheShop : ByteArray := prog_1_method_22_code
def yX5_workInTheShop : MethodName := ⟨RX5, "workInTheShop", "()V"⟩
abbrev cX5_letGoThoseDue : ByteArray := prog_1_method_23_code
def yX5_letGoThoseDue : MethodName := ⟨RX5, "letGoThoseDue", "()I"⟩
abbrev cX5_findPerson : ByteArray := prog_1_method_24_code
def yX5_findPerson : MethodName := ⟨RX5, "findPerson", "(I)LParoleCards$Person;"⟩
abbrev cX5_findOffence : ByteArray := prog_1_method_25_code
def yX5_findOffence : MethodName := ⟨RX5, "findOffence", "(LParoleCards$Person;I)LParoleCards$Offence;"⟩
abbrev cX5_findOrder : ByteArray := prog_1_method_26_code
def yX5_findOrder : MethodName := ⟨RX5, "findOrder", "(I)LParoleCards$Order;"⟩
abbrev cX5_findTools : ByteArray := prog_1_method_27_code
def yX5_findTools : MethodName := ⟨RX5, "findTools", "(I)LParoleCards$ToolKind;"⟩
abbrev cX5_checkSkill : ByteArray := prog_1_method_28_code
def yX5_checkSkill : MethodName := ⟨RX5, "checkSkill", "(I)V"⟩
abbrev cX5_checkRange : ByteArray := prog_1_method_29_code
def yX5_checkRange : MethodName := ⟨RX5, "checkRange", "(III)V"⟩
abbrev cX5_checkIn : ByteArray := prog_1_method_30_code
def yX5_checkIn : MethodName := ⟨RX5, "checkIn", "(LParoleCards$Person;)V"⟩
def RX6 : String := "ParoleCardsModel"
def TX6 : u_T := fun k => match k with
  | 0 => ("ParoleCardsModel", "today", "I", false)
  | 1 => ("ParoleCardsModel", "people", "I", false)
  | 2 => ("ParoleCardsModel", "isOut", "[Z", true)
  | 3 => ("ParoleCardsModel", "since", "[I", true)
  | 4 => ("ParoleCardsModel", "term", "[I", true)
  | 5 => ("ParoleCardsModel", "skills", "[I", true)
  | 6 => ("ParoleCardsModel", "regime", "[I", true)
  | 7 => ("ParoleCardsModel", "worked", "[I", true)
  | 8 => ("ParoleCardsModel", "gained", "[I", true)
  | 9 => ("ParoleCardsModel", "papers", "[I", true)
  | 10 => ("ParoleCardsModel", "offences", "[I", true)
  | 11 => ("ParoleCardsModel", "on", "[I", true)
  | 12 => ("ParoleCardsModel", "released", "[I", true)
  | 13 => ("ParoleCardsModel", "paid", "[I", true)
  | 14 => ("ParoleCardsModel", "account", "[I", true)
  | 15 => ("ParoleCardsModel", "span", "[I", true)
  | 16 => ("ParoleCardsModel", "bought", "[I", true)
  | 17 => ("ParoleCardsModel", "lost", "[I", true)
  | 18 => ("ParoleCardsModel", "lostOn", "[I", true)
  | 19 => ("ParoleCardsModel", "isLower", "[Z", true)
  | 20 => ("ParoleCardsModel", "isAppealed", "[Z", true)
  | 21 => ("ParoleCardsModel", "tools", "[I", true)
  | 22 => ("ParoleCardsModel", "orders", "I", false)
  | 23 => ("ParoleCardsModel", "skill", "[I", true)
  | 24 => ("ParoleCardsModel", "kind", "[I", true)
  | 25 => ("ParoleCardsModel", "left", "[I", true)
  | 26 => ("ParoleCardsModel", "wage", "[I", true)
  | _ => ("ParoleCardsModel", "thrown", "I", false)
def tyX6 : Nat → FieldType := fun k => match k with
  | 0 => .int
  | 1 => .int
  | 2 => .array .boolean
  | 3 => .array .int
  | 4 => .array .int
  | 5 => .array .int
  | 6 => .array .int
  | 7 => .array .int
  | 8 => .array .int
  | 9 => .array .int
  | 10 => .array .int
  | 11 => .array .int
  | 12 => .array .int
  | 13 => .array .int
  | 14 => .array .int
  | 15 => .array .int
  | 16 => .array .int
  | 17 => .array .int
  | 18 => .array .int
  | 19 => .array .boolean
  | 20 => .array .boolean
  | 21 => .array .int
  | 22 => .int
  | 23 => .array .int
  | 24 => .array .int
  | 25 => .array .int
  | 26 => .array .int
  | _ => .int
abbrev wsX60 : List Cond := u_ws RX6 TX6 28
theorem nmX6 : ∀ a, a < 28 → ∀ b, b < 28 → a ≠ b → (TX6 a).2.1 ≠ (TX6 b).2.1 := by decide +kernel
theorem tyX6_ok : ∀ k, k < 28 → parseFieldDescriptor (TX6 k).2.2.1 = some (tyX6 k) := by decide +kernel
abbrev cX6_init : ByteArray := prog_8_method_1_code
def yX6_init : MethodName := ⟨RX6, "<init>", "()V"⟩
abbrev cX6_thrown : ByteArray := prog_8_method_2_code
def yX6_thrown : MethodName := ⟨RX6, "thrown", "()I"⟩
abbrev cX6_fails : ByteArray := prog_8_method_3_code
def yX6_fails : MethodName := ⟨RX6, "fails", "(I)Z"⟩
abbrev cX6_lies : ByteArray := prog_8_method_4_code
def yX6_lies : MethodName := ⟨RX6, "lies", "(III)Z"⟩
abbrev cX6_isPerson : ByteArray := prog_8_method_5_code
def yX6_isPerson : MethodName := ⟨RX6, "isPerson", "(I)Z"⟩
abbrev cX6_isOrder : ByteArray := prog_8_method_6_code
def yX6_isOrder : MethodName := ⟨RX6, "isOrder", "(I)Z"⟩
abbrev cX6_admit : ByteArray := prog_8_method_7_code
def yX6_admit : MethodName := ⟨RX6, "admit", "(II)I"⟩
abbrev cX6_gains : ByteArray := prog_8_method_8_code
def yX6_gains : MethodName := ⟨RX6, "gains", "(I)I"⟩
abbrev cX6_loses : ByteArray := prog_8_method_9_code
def yX6_loses : MethodName := ⟨RX6, "loses", "(I)I"⟩
abbrev cX6_releaseOf : ByteArray := prog_8_method_10_code
def yX6_releaseOf : MethodName := ⟨RX6, "releaseOf", "(I)I"⟩
abbrev cX6_raises : ByteArray := prog_8_method_11_code
def yX6_raises : MethodName := ⟨RX6, "raises", "(I)V"⟩
abbrev cX6_course : ByteArray := prog_8_method_12_code
def yX6_course : MethodName := ⟨RX6, "course", "(III)I"⟩
abbrev cX6_offence : ByteArray := prog_8_method_13_code
def yX6_offence : MethodName := ⟨RX6, "offence", "(II)I"⟩
abbrev cX6_appeal : ByteArray := prog_8_method_14_code
def yX6_appeal : MethodName := ⟨RX6, "appeal", "(II)I"⟩
abbrev cX6_release : ByteArray := prog_8_method_15_code
def yX6_release : MethodName := ⟨RX6, "release", "(I)I"⟩
abbrev cX6_isIn : ByteArray := prog_8_method_16_code
def yX6_isIn : MethodName := ⟨RX6, "isIn", "(I)Z"⟩
abbrev cX6_of : ByteArray := prog_8_method_17_code
def yX6_of : MethodName := ⟨RX6, "of", "([II)I"⟩
abbrev cX6_regime : ByteArray := prog_8_method_18_code
def yX6_regime : MethodName := ⟨RX6, "regime", "(I)I"⟩
abbrev cX6_papers : ByteArray := prog_8_method_19_code
def yX6_papers : MethodName := ⟨RX6, "papers", "(IZ)I"⟩
abbrev cX6_isKind : ByteArray := prog_8_method_20_code
def yX6_isKind : MethodName := ⟨RX6, "isKind", "(I)Z"⟩
abbrev cX6_out : ByteArray := prog_8_method_21_code
def yX6_out : MethodName := ⟨RX6, "out", "(I)I"⟩
abbrev cX6_setTools : ByteArray := prog_8_method_22_code
def yX6_setTools : MethodName := ⟨RX6, "setTools", "(II)I"⟩
abbrev cX6_toolsOut : ByteArray := prog_8_method_23_code
def yX6_toolsOut : MethodName := ⟨RX6, "toolsOut", "(I)I"⟩
abbrev cX6_addOrder : ByteArray := prog_8_method_24_code
def yX6_addOrder : MethodName := ⟨RX6, "addOrder", "(IIII)I"⟩
abbrev cX6_assign : ByteArray := prog_8_method_25_code
def yX6_assign : MethodName := ⟨RX6, "assign", "(II)I"⟩
abbrev cX6_takeOff : ByteArray := prog_8_method_26_code
def yX6_takeOff : MethodName := ⟨RX6, "takeOff", "(I)I"⟩
abbrev cX6_orderOf : ByteArray := prog_8_method_27_code
def yX6_orderOf : MethodName := ⟨RX6, "orderOf", "(I)I"⟩
abbrev cX6_left : ByteArray := prog_8_method_28_code
def yX6_left : MethodName := ⟨RX6, "left", "(I)I"⟩
abbrev cX6_account : ByteArray := prog_8_method_29_code
def yX6_account : MethodName := ⟨RX6, "account", "(II)I"⟩
abbrev cX6_rest : ByteArray := prog_8_method_30_code
def yX6_rest : MethodName := ⟨RX6, "rest", "(I)I"⟩
abbrev cX6_buy : ByteArray := prog_8_method_31_code
def yX6_buy : MethodName := ⟨RX6, "buy", "(II)I"⟩
abbrev cX6_limit : ByteArray := prog_8_method_32_code
def yX6_limit : MethodName := ⟨RX6, "limit", "(I)I"⟩
abbrev cX6_paidOut : ByteArray := prog_8_method_33_code
def yX6_paidOut : MethodName := ⟨RX6, "paidOut", "(I)I"⟩
abbrev cX6_works : ByteArray := prog_8_method_34_code
def yX6_works : MethodName := ⟨RX6, "works", "(I)V"⟩
abbrev cX6_goes : ByteArray := prog_8_method_35_code
def yX6_goes : MethodName := ⟨RX6, "goes", "(I)I"⟩
abbrev cX6_pass : ByteArray := prog_8_method_36_code
def yX6_pass : MethodName := ⟨RX6, "pass", "(I)I"⟩
def RJ9 : String := "java/lang/Math"
def TJ9 : u_T := fun k => match k with
  | _ => ("", "", "", false)
def tyJ9 : Nat → FieldType := fun k => match k with
  | _ => .int
abbrev wsJ90 : List Cond := u_ws RJ9 TJ9 0
theorem nmJ9 : ∀ a, a < 0 → ∀ b, b < 0 → a ≠ b → (TJ9 a).2.1 ≠ (TJ9 b).2.1 := by decide +kernel
theorem tyJ9_ok : ∀ k, k < 0 → parseFieldDescriptor (TJ9 k).2.2.1 = some (tyJ9 k) := by decide +kernel
abbrev cJ9_max_7cf53 : ByteArray := prog_13_method_65_code
def yJ9_max_7cf53 : MethodName := ⟨RJ9, "max", "(II)I"⟩
abbrev cJ9_min_7cf53 : ByteArray := prog_13_method_69_code
def yJ9_min_7cf53 : MethodName := ⟨RJ9, "min", "(II)I"⟩
def RJ0 : String := "java/lang/String"
def TJ0 : u_T := fun k => match k with
  | _ => ("", "", "", false)
def tyJ0 : Nat → FieldType := fun k => match k with
  | _ => .int
abbrev wsJ00 : List Cond := u_ws RJ0 TJ0 0
theorem nmJ0 : ∀ a, a < 0 → ∀ b, b < 0 → a ≠ b → (TJ0 a).2.1 ≠ (TJ0 b).2.1 := by decide +kernel
theorem tyJ0_ok : ∀ k, k < 0 → parseFieldDescriptor (TJ0 k).2.2.1 = some (tyJ0 k) := by decide +kernel
def RL : String := "ParoleCardsLaw"
abbrev cL_admit : ByteArray := method_3_code
def yL_admit : MethodName := ⟨RL, "admit", "(LParoleCards;II[J)I"⟩
abbrev cL_course : ByteArray := method_4_code
def yL_course : MethodName := ⟨RL, "course", "(LParoleCards;III[J)I"⟩
abbrev cL_offence : ByteArray := method_5_code
def yL_offence : MethodName := ⟨RL, "offence", "(LParoleCards;II[J)I"⟩
abbrev cL_appeal : ByteArray := method_6_code
def yL_appeal : MethodName := ⟨RL, "appeal", "(LParoleCards;II[J)I"⟩
abbrev cL_release : ByteArray := method_7_code
def yL_release : MethodName := ⟨RL, "release", "(LParoleCards;I[J)I"⟩
abbrev cL_isIn : ByteArray := method_8_code
def yL_isIn : MethodName := ⟨RL, "isIn", "(LParoleCards;I[J)I"⟩
abbrev cL_regime : ByteArray := method_9_code
def yL_regime : MethodName := ⟨RL, "regime", "(LParoleCards;I[J)I"⟩
abbrev cL_papers : ByteArray := method_10_code
def yL_papers : MethodName := ⟨RL, "papers", "(LParoleCards;IZ[J)I"⟩
abbrev cL_setTools : ByteArray := method_11_code
def yL_setTools : MethodName := ⟨RL, "setTools", "(LParoleCards;II[J)I"⟩
abbrev cL_toolsOut : ByteArray := method_12_code
def yL_toolsOut : MethodName := ⟨RL, "toolsOut", "(LParoleCards;I[J)I"⟩
abbrev cL_addOrder : ByteArray := method_13_code
def yL_addOrder : MethodName := ⟨RL, "addOrder", "(LParoleCards;IIII[J)I"⟩
abbrev cL_assign : ByteArray := method_14_code
def yL_assign : MethodName := ⟨RL, "assign", "(LParoleCards;II[J)I"⟩
abbrev cL_takeOff : ByteArray := method_15_code
def yL_takeOff : MethodName := ⟨RL, "takeOff", "(LParoleCards;I[J)I"⟩
abbrev cL_orderOf : ByteArray := method_16_code
def yL_orderOf : MethodName := ⟨RL, "orderOf", "(LParoleCards;I[J)I"⟩
abbrev cL_left : ByteArray := method_17_code
def yL_left : MethodName := ⟨RL, "left", "(LParoleCards;I[J)I"⟩
abbrev cL_account : ByteArray := method_18_code
def yL_account : MethodName := ⟨RL, "account", "(LParoleCards;II[J)I"⟩
abbrev cL_buy : ByteArray := method_19_code
def yL_buy : MethodName := ⟨RL, "buy", "(LParoleCards;II[J)I"⟩
abbrev cL_limit : ByteArray := method_20_code
def yL_limit : MethodName := ⟨RL, "limit", "(LParoleCards;I[J)I"⟩
abbrev cL_paidOut : ByteArray := method_21_code
def yL_paidOut : MethodName := ⟨RL, "paidOut", "(LParoleCards;I[J)I"⟩
abbrev cL_pass : ByteArray := method_22_code
def yL_pass : MethodName := ⟨RL, "pass", "(LParoleCards;I[J)I"⟩
abbrev cL_law : ByteArray := code
def yL_law : MethodName := ⟨RL, "law", "([I)Z"⟩
def wsX0_init : List Cond := .code yX0_init cX0_init 4 none :: ([.methodLink RX0 3 objectInit, .instanceMethod objectInit, .code objectInit ⟨#[0xb1]⟩ 1 none, .fieldLink RX0 9 "ParoleCards$Offence" "day" "I", .fieldLink RX0 15 "ParoleCards$Offence" "days" "I", .fieldLink RX0 18 "ParoleCards$Offence" "loweredRegime" "Z"] ++ wsX00)
def wsX0_lowersLimitOn : List Cond := .code yX0_lowersLimitOn cX0_lowersLimitOn 2 (some .boolean) :: ([.fieldLink RX0 22 "ParoleCards$Offence" "appealed" "Z", .fieldLink RX0 9 "ParoleCards$Offence" "day" "I"] ++ wsX00)
def wsX1_init : List Cond := .code yX1_init cX1_init 6 none :: ([.methodLink RX1 1 objectInit, .instanceMethod objectInit, .code objectInit ⟨#[0xb1]⟩ 1 none, .fieldLink RX1 7 "ParoleCards$Order" "number" "I", .fieldLink RX1 13 "ParoleCards$Order" "skill" "I", .fieldLink RX1 16 "ParoleCards$Order" "tools" "LParoleCards$ToolKind;", .fieldLink RX1 20 "ParoleCards$Order" "workLeft" "I", .fieldLink RX1 23 "ParoleCards$Order" "wage" "I"] ++ wsX10)
def wsX1_isFinished : List Cond := .code yX1_isFinished cX1_isFinished 1 (some .boolean) :: ([.fieldLink RX1 20 "ParoleCards$Order" "workLeft" "I"] ++ wsX10)
def wsX1_hasFreeTool : List Cond := .code yX1_hasFreeTool cX1_hasFreeTool 1 (some .boolean) :: ([.fieldLink RX1 16 "ParoleCards$Order" "tools" "LParoleCards$ToolKind;", .fieldLink RX1 26 "ParoleCards$ToolKind" "countedOut" "I", .fieldLink RX1 31 "ParoleCards$ToolKind" "count" "I"] ++ wsX10 ++ wsX40)
def wsX3_init : List Cond := .code yX3_init cX3_init 1 none :: ([.methodLink RX3 3 objectInit, .instanceMethod objectInit, .code objectInit ⟨#[0xb1]⟩ 1 none, .arrayClass .int, .fieldLink RX3 9 "ParoleCards$Purse" "accounts" "[I"] ++ wsX30)
def wsX2_init : List Cond := .code yX2_init cX2_init 4 none :: ([.methodLink RX2 3 objectInit, .instanceMethod objectInit, .code objectInit ⟨#[0xb1]⟩ 1 none, .fieldLink RX2 9 "ParoleCards$Person" "regimeNow" "I", .classLink RX2 15 RX0, .fieldLink RX2 17 "ParoleCards$Person" "offences" "[LParoleCards$Offence;", .classLink RX2 21 RX3, .instantiable RX3 4, .initialized RX3, .fieldLink RX2 24 "ParoleCards$Person" "purse" "LParoleCards$Purse;", .fieldLink RX2 28 "ParoleCards$Person" "admittedOn" "I", .fieldLink RX2 31 "ParoleCards$Person" "term" "I", .fieldLink RX2 34 "ParoleCards$Person" "skills" "I", .instanceMethod yX3_init, .code yX3_init cX3_init 1 none, .methodLink RX3 3 objectInit, .arrayClass .int, .fieldLink RX3 9 "ParoleCards$Purse" "accounts" "[I"] ++ wsX20 ++ wsX30)
def wsX2_gainedDays : List Cond := .code yX2_gainedDays cX2_gainedDays 1 (some .int) :: ([.fieldLink RX2 37 "ParoleCards$Person" "workedDays" "I", .fieldLink RX2 40 "ParoleCards$Person" "courseDays" "I"] ++ wsX20)
def wsX2_releaseDay : List Cond := .code yX2_releaseDay cX2_releaseDay 1 (some .int) :: ([.fieldLink RX2 43 "ParoleCards$Person" "released" "Z", .fieldLink RX2 47 "ParoleCards$Person" "releasedOn" "I", .fieldLink RX2 28 "ParoleCards$Person" "admittedOn" "I", .fieldLink RX2 31 "ParoleCards$Person" "term" "I", .methodLink RX2 54 Lib.Math.min.name, .static Lib.Math.min.name, .initialized "java/lang/Math", .code Lib.Math.min.name Lib.Math.min.code 2 (some .int), .fieldLink RX2 60 "ParoleCards$Person" "lostDays" "I", .methodLink RX2 50 yX2_gainedDays, .instanceMethod yX2_gainedDays, .selects RX2 yX2_gainedDays yX2_gainedDays, .initialized RX2, .code yX2_gainedDays cX2_gainedDays 1 (some .int), .fieldLink RX2 37 "ParoleCards$Person" "workedDays" "I", .fieldLink RX2 40 "ParoleCards$Person" "courseDays" "I"] ++ wsX20)
def wsX2_hasSkill : List Cond := .code yX2_hasSkill cX2_hasSkill 2 (some .boolean) :: ([.fieldLink RX2 34 "ParoleCards$Person" "skills" "I"] ++ wsX20)
def wsX2_hasRoomForPaper : List Cond := .code yX2_hasRoomForPaper cX2_hasRoomForPaper 1 (some .boolean) :: ([.fieldLink RX2 63 "ParoleCards$Person" "courseCount" "I", .fieldLink RX2 66 "ParoleCards$Person" "offenceCount" "I"] ++ wsX20)
def wsX2_raiseRegime : List Cond := .code yX2_raiseRegime cX2_raiseRegime 1 none :: ([.fieldLink RX2 9 "ParoleCards$Person" "regimeNow" "I", .methodLink RX2 54 Lib.Math.min.name, .static Lib.Math.min.name, .initialized "java/lang/Math", .code Lib.Math.min.name Lib.Math.min.code 2 (some .int)] ++ wsX20)
def wsX2_enterCourse : List Cond := .code yX2_enterCourse cX2_enterCourse 3 none :: ([.classLink RX2 73 "java/lang/IllegalStateException", .initialized "java/lang/IllegalStateException", .fieldLink RX2 34 "ParoleCards$Person" "skills" "I", .fieldLink RX2 63 "ParoleCards$Person" "courseCount" "I", .fieldLink RX2 40 "ParoleCards$Person" "courseDays" "I", .methodLink RX2 69 yX2_hasRoomForPaper, .instanceMethod yX2_hasRoomForPaper, .selects RX2 yX2_hasRoomForPaper yX2_hasRoomForPaper, .initialized RX2, .code yX2_hasRoomForPaper cX2_hasRoomForPaper 1 (some .boolean), .fieldLink RX2 66 "ParoleCards$Person" "offenceCount" "I", .methodLink RX2 80 yX2_raiseRegime, .instanceMethod yX2_raiseRegime, .selects RX2 yX2_raiseRegime yX2_raiseRegime, .code yX2_raiseRegime cX2_raiseRegime 1 none, .fieldLink RX2 9 "ParoleCards$Person" "regimeNow" "I", .methodLink RX2 54 Lib.Math.min.name, .static Lib.Math.min.name, .initialized "java/lang/Math", .code Lib.Math.min.name Lib.Math.min.code 2 (some .int)] ++ wsX20 ++ (vx_atS RX2 77 "java/lang/IllegalStateException" ["java/lang/RuntimeException", "java/lang/Exception"]).filter goodWord)
def wsX2_leaveOrder : List Cond := .code yX2_leaveOrder cX2_leaveOrder 2 none :: ([.fieldLink RX2 98 "ParoleCards$Person" "order" "LParoleCards$Order;", .fieldLink RX2 102 "ParoleCards$Order" "peopleOnIt" "I", .fieldLink RX2 107 "ParoleCards$Order" "tools" "LParoleCards$ToolKind;", .fieldLink RX2 111 "ParoleCards$ToolKind" "countedOut" "I"] ++ wsX20 ++ wsX10 ++ wsX40)
def wsX2_enterOffence_r1 : List Cond := [Cond.classLink RX2 73 "java/lang/IllegalStateException", Cond.initialized "java/lang/IllegalStateException", Cond.fieldLink RX2 66 "ParoleCards$Person" "offenceCount" "I", Cond.fieldLink RX2 17 "ParoleCards$Person" "offences" "[LParoleCards$Offence;", Cond.fieldLink RX2 9 "ParoleCards$Person" "regimeNow" "I", Cond.classLink RX2 15 RX0, Cond.instantiable RX0 4, Cond.initialized RX0, Cond.fieldLink RX2 60 "ParoleCards$Person" "lostDays" "I", Cond.methodLink RX2 69 yX2_hasRoomForPaper, Cond.instanceMethod yX2_hasRoomForPaper, Cond.selects RX2 yX2_hasRoomForPaper yX2_hasRoomForPaper, Cond.initialized RX2, Cond.code yX2_hasRoomForPaper cX2_hasRoomForPaper 1 (some .boolean), Cond.fieldLink RX2 63 "ParoleCards$Person" "courseCount" "I", Cond.methodLink RX2 83 yX0_init, Cond.instanceMethod yX0_init, Cond.code yX0_init cX0_init 4 none, Cond.methodLink RX0 3 objectInit, Cond.instanceMethod objectInit, Cond.code objectInit ⟨#[0xb1]⟩ 1 none, Cond.fieldLink RX0 9 "ParoleCards$Offence" "day" "I", Cond.fieldLink RX0 15 "ParoleCards$Offence" "days" "I", Cond.fieldLink RX0 18 "ParoleCards$Offence" "loweredRegime" "Z"]
def wsX2_enterOffence_r2 : List Cond := [Cond.methodLink RX2 86 yX2_leaveOrder, Cond.instanceMethod yX2_leaveOrder, Cond.selects RX2 yX2_leaveOrder yX2_leaveOrder, Cond.code yX2_leaveOrder cX2_leaveOrder 2 none, Cond.fieldLink RX2 98 "ParoleCards$Person" "order" "LParoleCards$Order;", Cond.fieldLink RX2 102 "ParoleCards$Order" "peopleOnIt" "I", Cond.fieldLink RX2 107 "ParoleCards$Order" "tools" "LParoleCards$ToolKind;", Cond.fieldLink RX2 111 "ParoleCards$ToolKind" "countedOut" "I"]
def wsX2_enterOffence : List Cond := .code yX2_enterOffence cX2_enterOffence 5 (some .int) :: ((wsX2_enterOffence_r1 ++ wsX2_enterOffence_r2) ++ wsX20 ++ wsX00 ++ wsX10 ++ wsX40 ++ (vx_atS RX2 77 "java/lang/IllegalStateException" ["java/lang/RuntimeException", "java/lang/Exception"]).filter goodWord)
def wsX2_appealOffence : List Cond := .code yX2_appealOffence cX2_appealOffence 2 none :: ([.fieldLink RX2 89 "ParoleCards$Offence" "appealed" "Z", .fieldLink RX2 60 "ParoleCards$Person" "lostDays" "I", .fieldLink RX2 92 "ParoleCards$Offence" "days" "I", .fieldLink RX2 95 "ParoleCards$Offence" "loweredRegime" "Z", .methodLink RX2 80 yX2_raiseRegime, .instanceMethod yX2_raiseRegime, .selects RX2 yX2_raiseRegime yX2_raiseRegime, .initialized RX2, .code yX2_raiseRegime cX2_raiseRegime 1 none, .fieldLink RX2 9 "ParoleCards$Person" "regimeNow" "I", .methodLink RX2 54 Lib.Math.min.name, .static Lib.Math.min.name, .initialized "java/lang/Math", .code Lib.Math.min.name Lib.Math.min.code 2 (some .int)] ++ wsX00 ++ wsX20)
def wsX2_joinOrder : List Cond := .code yX2_joinOrder cX2_joinOrder 2 none :: ([.fieldLink RX2 98 "ParoleCards$Person" "order" "LParoleCards$Order;", .fieldLink RX2 102 "ParoleCards$Order" "peopleOnIt" "I", .fieldLink RX2 107 "ParoleCards$Order" "tools" "LParoleCards$ToolKind;", .fieldLink RX2 111 "ParoleCards$ToolKind" "countedOut" "I"] ++ wsX20 ++ wsX10 ++ wsX40)
def wsX2_leaveFinishedOrder : List Cond := .code yX2_leaveFinishedOrder cX2_leaveFinishedOrder 2 none :: ([.fieldLink RX2 98 "ParoleCards$Person" "order" "LParoleCards$Order;", .methodLink RX2 116 yX1_isFinished, .instanceMethod yX1_isFinished, .selects RX1 yX1_isFinished yX1_isFinished, .initialized RX1, .code yX1_isFinished cX1_isFinished 1 (some .boolean), .fieldLink RX1 20 "ParoleCards$Order" "workLeft" "I", .methodLink RX2 86 yX2_leaveOrder, .instanceMethod yX2_leaveOrder, .selects RX2 yX2_leaveOrder yX2_leaveOrder, .initialized RX2, .code yX2_leaveOrder cX2_leaveOrder 2 none, .fieldLink RX2 102 "ParoleCards$Order" "peopleOnIt" "I", .fieldLink RX2 107 "ParoleCards$Order" "tools" "LParoleCards$ToolKind;", .fieldLink RX2 111 "ParoleCards$ToolKind" "countedOut" "I"] ++ wsX20 ++ wsX10 ++ wsX40)
def wsX3_partWage : List Cond := .code yX3_partWage cX3_partWage 5 none :: ([.fieldLink RX3 9 "ParoleCards$Purse" "accounts" "[I"] ++ wsX30)
def wsX2_workOneDay : List Cond := .code yX2_workOneDay cX2_workOneDay 2 none :: ([.fieldLink RX2 98 "ParoleCards$Person" "order" "LParoleCards$Order;", .fieldLink RX2 119 "ParoleCards$Order" "workLeft" "I", .fieldLink RX2 37 "ParoleCards$Person" "workedDays" "I", .fieldLink RX2 24 "ParoleCards$Person" "purse" "LParoleCards$Purse;", .fieldLink RX2 122 "ParoleCards$Order" "wage" "I", .methodLink RX2 116 yX1_isFinished, .instanceMethod yX1_isFinished, .selects RX1 yX1_isFinished yX1_isFinished, .initialized RX1, .code yX1_isFinished cX1_isFinished 1 (some .boolean), .fieldLink RX1 20 "ParoleCards$Order" "workLeft" "I", .methodLink RX2 125 yX3_partWage, .instanceMethod yX3_partWage, .selects RX3 yX3_partWage yX3_partWage, .initialized RX3, .code yX3_partWage cX3_partWage 5 none, .fieldLink RX3 9 "ParoleCards$Purse" "accounts" "[I"] ++ wsX20 ++ wsX10 ++ wsX30)
def wsX2_limitOfSpan : List Cond := .code yX2_limitOfSpan cX2_limitOfSpan 7 (some .int) :: ([.fieldLink RX2 9 "ParoleCards$Person" "regimeNow" "I", .fieldLink RX2 17 "ParoleCards$Person" "offences" "[LParoleCards$Offence;", .methodLink RX2 133 Lib.Math.max.name, .static Lib.Math.max.name, .initialized "java/lang/Math", .code Lib.Math.max.name Lib.Math.max.code 2 (some .int), .methodLink RX2 129 yX0_lowersLimitOn, .instanceMethod yX0_lowersLimitOn, .selects RX0 yX0_lowersLimitOn yX0_lowersLimitOn, .initialized RX0, .code yX0_lowersLimitOn cX0_lowersLimitOn 2 (some .boolean), .fieldLink RX0 22 "ParoleCards$Offence" "appealed" "Z", .fieldLink RX0 9 "ParoleCards$Offence" "day" "I"] ++ wsX20 ++ wsX00)
def wsX3_boughtInSpan : List Cond := .code yX3_boughtInSpan cX3_boughtInSpan 2 (some .int) :: ([.fieldLink RX3 15 "ParoleCards$Purse" "lastSpan" "I", .fieldLink RX3 19 "ParoleCards$Purse" "boughtInLastSpan" "I"] ++ wsX30)
def wsX2_mayStillBuy_r1 : List Cond := [Cond.fieldLink RX2 43 "ParoleCards$Person" "released" "Z", Cond.fieldLink RX2 24 "ParoleCards$Person" "purse" "LParoleCards$Purse;", Cond.methodLink RX2 133 Lib.Math.max.name, Cond.static Lib.Math.max.name, Cond.initialized "java/lang/Math", Cond.code Lib.Math.max.name Lib.Math.max.code 2 (some .int), Cond.methodLink RX2 136 yX2_limitOfSpan, Cond.instanceMethod yX2_limitOfSpan, Cond.selects RX2 yX2_limitOfSpan yX2_limitOfSpan, Cond.initialized RX2, Cond.code yX2_limitOfSpan cX2_limitOfSpan 7 (some .int), Cond.fieldLink RX2 9 "ParoleCards$Person" "regimeNow" "I", Cond.fieldLink RX2 17 "ParoleCards$Person" "offences" "[LParoleCards$Offence;", Cond.methodLink RX2 129 yX0_lowersLimitOn, Cond.instanceMethod yX0_lowersLimitOn, Cond.selects RX0 yX0_lowersLimitOn yX0_lowersLimitOn, Cond.initialized RX0, Cond.code yX0_lowersLimitOn cX0_lowersLimitOn 2 (some .boolean), Cond.fieldLink RX0 22 "ParoleCards$Offence" "appealed" "Z", Cond.fieldLink RX0 9 "ParoleCards$Offence" "day" "I", Cond.methodLink RX2 140 yX3_boughtInSpan, Cond.instanceMethod yX3_boughtInSpan, Cond.selects RX3 yX3_boughtInSpan yX3_boughtInSpan, Cond.initialized RX3]
def wsX2_mayStillBuy_r2 : List Cond := [Cond.code yX3_boughtInSpan cX3_boughtInSpan 2 (some .int), Cond.fieldLink RX3 15 "ParoleCards$Purse" "lastSpan" "I", Cond.fieldLink RX3 19 "ParoleCards$Purse" "boughtInLastSpan" "I"]
def wsX2_mayStillBuy : List Cond := .code yX2_mayStillBuy cX2_mayStillBuy 2 (some .int) :: ((wsX2_mayStillBuy_r1 ++ wsX2_mayStillBuy_r2) ++ wsX20 ++ wsX00 ++ wsX30)
def wsX2_isDue : List Cond := .code yX2_isDue cX2_isDue 2 (some .boolean) :: ([.fieldLink RX2 43 "ParoleCards$Person" "released" "Z", .methodLink RX2 143 yX2_releaseDay, .instanceMethod yX2_releaseDay, .selects RX2 yX2_releaseDay yX2_releaseDay, .initialized RX2, .code yX2_releaseDay cX2_releaseDay 1 (some .int), .fieldLink RX2 47 "ParoleCards$Person" "releasedOn" "I", .fieldLink RX2 28 "ParoleCards$Person" "admittedOn" "I", .fieldLink RX2 31 "ParoleCards$Person" "term" "I", .methodLink RX2 54 Lib.Math.min.name, .static Lib.Math.min.name, .initialized "java/lang/Math", .code Lib.Math.min.name Lib.Math.min.code 2 (some .int), .fieldLink RX2 60 "ParoleCards$Person" "lostDays" "I", .methodLink RX2 50 yX2_gainedDays, .instanceMethod yX2_gainedDays, .selects RX2 yX2_gainedDays yX2_gainedDays, .code yX2_gainedDays cX2_gainedDays 1 (some .int), .fieldLink RX2 37 "ParoleCards$Person" "workedDays" "I", .fieldLink RX2 40 "ParoleCards$Person" "courseDays" "I"] ++ wsX20)
def wsX3_payOut : List Cond := .code yX3_payOut cX3_payOut 1 none :: ([.fieldLink RX3 9 "ParoleCards$Purse" "accounts" "[I", .fieldLink RX3 26 "ParoleCards$Purse" "paidOutSum" "I"] ++ wsX30)
def wsX2_letGo : List Cond := .code yX2_letGo cX2_letGo 2 none :: ([.fieldLink RX2 24 "ParoleCards$Person" "purse" "LParoleCards$Purse;", .fieldLink RX2 47 "ParoleCards$Person" "releasedOn" "I", .fieldLink RX2 43 "ParoleCards$Person" "released" "Z", .methodLink RX2 86 yX2_leaveOrder, .instanceMethod yX2_leaveOrder, .selects RX2 yX2_leaveOrder yX2_leaveOrder, .initialized RX2, .code yX2_leaveOrder cX2_leaveOrder 2 none, .fieldLink RX2 98 "ParoleCards$Person" "order" "LParoleCards$Order;", .fieldLink RX2 102 "ParoleCards$Order" "peopleOnIt" "I", .fieldLink RX2 107 "ParoleCards$Order" "tools" "LParoleCards$ToolKind;", .fieldLink RX2 111 "ParoleCards$ToolKind" "countedOut" "I", .methodLink RX2 146 yX3_payOut, .instanceMethod yX3_payOut, .selects RX3 yX3_payOut yX3_payOut, .initialized RX3, .code yX3_payOut cX3_payOut 1 none, .fieldLink RX3 9 "ParoleCards$Purse" "accounts" "[I", .fieldLink RX3 26 "ParoleCards$Purse" "paidOutSum" "I"] ++ wsX20 ++ wsX10 ++ wsX40 ++ wsX30)
def wsX3_spend : List Cond := .code yX3_spend cX3_spend 3 none :: ([.fieldLink RX3 19 "ParoleCards$Purse" "boughtInLastSpan" "I", .fieldLink RX3 15 "ParoleCards$Purse" "lastSpan" "I", .fieldLink RX3 9 "ParoleCards$Purse" "accounts" "[I", .methodLink RX3 22 yX3_boughtInSpan, .instanceMethod yX3_boughtInSpan, .selects RX3 yX3_boughtInSpan yX3_boughtInSpan, .initialized RX3, .code yX3_boughtInSpan cX3_boughtInSpan 2 (some .int)] ++ wsX30)
def wsX4_init : List Cond := .code yX4_init cX4_init 1 none :: ([.methodLink RX4 1 objectInit, .instanceMethod objectInit, .code objectInit ⟨#[0xb1]⟩ 1 none])
def wsX5_init : List Cond := .code yX5_init cX5_init 2 none :: ([.methodLink RX5 1 objectInit, .instanceMethod objectInit, .code objectInit ⟨#[0xb1]⟩ 1 none, .classLink RX5 9 RX2, .fieldLink RX5 11 "ParoleCards" "people" "[LParoleCards$Person;", .classLink RX5 15 RX1, .fieldLink RX5 17 "ParoleCards" "orders" "[LParoleCards$Order;", .classLink RX5 21 RX4, .fieldLink RX5 23 "ParoleCards" "toolKinds" "[LParoleCards$ToolKind;", .instantiable RX4 2, .initialized RX4, .instanceMethod yX4_init, .code yX4_init cX4_init 1 none, .methodLink RX4 1 objectInit] ++ wsX50 ++ wsX40)
def wsX5_checkRange : List Cond := .code yX5_checkRange cX5_checkRange 3 none :: ([.classLink RX5 227 "java/lang/IllegalArgumentException", .initialized "java/lang/IllegalArgumentException"] ++ (vx_atS RX5 231 "java/lang/IllegalArgumentException" ["java/lang/RuntimeException", "java/lang/Exception"]).filter goodWord)
def wsX5_admit_r1 : List Cond := [Cond.classLink RX5 36 "java/lang/IllegalStateException", Cond.initialized "java/lang/IllegalStateException", Cond.fieldLink RX5 32 "ParoleCards" "personCount" "I", Cond.fieldLink RX5 11 "ParoleCards" "people" "[LParoleCards$Person;", Cond.classLink RX5 9 RX2, Cond.instantiable RX2 14, Cond.initialized RX2, Cond.fieldLink RX5 43 "ParoleCards" "today" "I", Cond.methodLink RX5 28 yX5_checkRange, Cond.static yX5_checkRange, Cond.initialized RX5, Cond.code yX5_checkRange cX5_checkRange 3 none, Cond.classLink RX5 227 "java/lang/IllegalArgumentException", Cond.initialized "java/lang/IllegalArgumentException", Cond.methodLink RX5 46 yX2_init, Cond.instanceMethod yX2_init, Cond.code yX2_init cX2_init 4 none, Cond.methodLink RX2 3 objectInit, Cond.instanceMethod objectInit, Cond.code objectInit ⟨#[0xb1]⟩ 1 none, Cond.fieldLink RX2 9 "ParoleCards$Person" "regimeNow" "I", Cond.classLink RX2 15 RX0, Cond.fieldLink RX2 17 "ParoleCards$Person" "offences" "[LParoleCards$Offence;", Cond.classLink RX2 21 RX3]
def wsX5_admit_r2 : List Cond := [Cond.instantiable RX3 4, Cond.initialized RX3, Cond.fieldLink RX2 24 "ParoleCards$Person" "purse" "LParoleCards$Purse;", Cond.fieldLink RX2 28 "ParoleCards$Person" "admittedOn" "I", Cond.fieldLink RX2 31 "ParoleCards$Person" "term" "I", Cond.fieldLink RX2 34 "ParoleCards$Person" "skills" "I", Cond.instanceMethod yX3_init, Cond.code yX3_init cX3_init 1 none, Cond.methodLink RX3 3 objectInit, Cond.arrayClass .int, Cond.fieldLink RX3 9 "ParoleCards$Purse" "accounts" "[I"]
def wsX5_admit : List Cond := .code yX5_admit cX5_admit 4 (some .int) :: ((wsX5_admit_r1 ++ wsX5_admit_r2) ++ wsX50 ++ wsX20 ++ wsX30 ++ (vx_atS RX5 40 "java/lang/IllegalStateException" ["java/lang/RuntimeException", "java/lang/Exception"]).filter goodWord ++ (vx_atS RX5 231 "java/lang/IllegalArgumentException" ["java/lang/RuntimeException", "java/lang/Exception"]).filter goodWord)
def wsX5_findPerson : List Cond := .code yX5_findPerson cX5_findPerson 3 (some (.object "ParoleCards$Person")) :: ([.classLink RX5 176 "java/lang/IndexOutOfBoundsException", .initialized "java/lang/IndexOutOfBoundsException", .fieldLink RX5 11 "ParoleCards" "people" "[LParoleCards$Person;"] ++ wsX50 ++ (vx_atS RX5 180 "java/lang/IndexOutOfBoundsException" ["java/lang/RuntimeException", "java/lang/Exception"]).filter goodWord)
def wsX5_checkSkill : List Cond := .code yX5_checkSkill cX5_checkSkill 1 none :: ([.classLink RX5 176 "java/lang/IndexOutOfBoundsException", .initialized "java/lang/IndexOutOfBoundsException"] ++ (vx_atS RX5 180 "java/lang/IndexOutOfBoundsException" ["java/lang/RuntimeException", "java/lang/Exception"]).filter goodWord)
def wsX5_checkIn : List Cond := .code yX5_checkIn cX5_checkIn 1 none :: ([.classLink RX5 36 "java/lang/IllegalStateException", .initialized "java/lang/IllegalStateException", .fieldLink RX5 88 "ParoleCards$Person" "released" "Z"] ++ wsX20 ++ (vx_atS RX5 40 "java/lang/IllegalStateException" ["java/lang/RuntimeException", "java/lang/Exception"]).filter goodWord)
def wsX5_course_r1 : List Cond := [Cond.methodLink RX5 48 yX5_findPerson, Cond.instanceMethod yX5_findPerson, Cond.selects RX5 yX5_findPerson yX5_findPerson, Cond.initialized RX5, Cond.code yX5_findPerson cX5_findPerson 3 (some (.object "ParoleCards$Person")), Cond.classLink RX5 176 "java/lang/IndexOutOfBoundsException", Cond.initialized "java/lang/IndexOutOfBoundsException", Cond.fieldLink RX5 11 "ParoleCards" "people" "[LParoleCards$Person;", Cond.methodLink RX5 52 yX5_checkSkill, Cond.static yX5_checkSkill, Cond.code yX5_checkSkill cX5_checkSkill 1 none, Cond.methodLink RX5 28 yX5_checkRange, Cond.static yX5_checkRange, Cond.code yX5_checkRange cX5_checkRange 3 none, Cond.classLink RX5 227 "java/lang/IllegalArgumentException", Cond.initialized "java/lang/IllegalArgumentException", Cond.methodLink RX5 56 yX5_checkIn, Cond.static yX5_checkIn, Cond.code yX5_checkIn cX5_checkIn 1 none, Cond.classLink RX5 36 "java/lang/IllegalStateException", Cond.initialized "java/lang/IllegalStateException", Cond.fieldLink RX5 88 "ParoleCards$Person" "released" "Z", Cond.methodLink RX5 60 yX2_enterCourse, Cond.instanceMethod yX2_enterCourse]
def wsX5_course_r2 : List Cond := [Cond.selects RX2 yX2_enterCourse yX2_enterCourse, Cond.initialized RX2, Cond.code yX2_enterCourse cX2_enterCourse 3 none, Cond.classLink RX2 73 "java/lang/IllegalStateException", Cond.fieldLink RX2 34 "ParoleCards$Person" "skills" "I", Cond.fieldLink RX2 63 "ParoleCards$Person" "courseCount" "I", Cond.fieldLink RX2 40 "ParoleCards$Person" "courseDays" "I", Cond.methodLink RX2 69 yX2_hasRoomForPaper, Cond.instanceMethod yX2_hasRoomForPaper, Cond.selects RX2 yX2_hasRoomForPaper yX2_hasRoomForPaper, Cond.code yX2_hasRoomForPaper cX2_hasRoomForPaper 1 (some .boolean), Cond.fieldLink RX2 66 "ParoleCards$Person" "offenceCount" "I", Cond.methodLink RX2 80 yX2_raiseRegime, Cond.instanceMethod yX2_raiseRegime, Cond.selects RX2 yX2_raiseRegime yX2_raiseRegime, Cond.code yX2_raiseRegime cX2_raiseRegime 1 none, Cond.fieldLink RX2 9 "ParoleCards$Person" "regimeNow" "I", Cond.methodLink RX2 54 Lib.Math.min.name, Cond.static Lib.Math.min.name, Cond.initialized "java/lang/Math", Cond.code Lib.Math.min.name Lib.Math.min.code 2 (some .int), Cond.methodLink RX5 64 yX2_releaseDay, Cond.instanceMethod yX2_releaseDay, Cond.selects RX2 yX2_releaseDay yX2_releaseDay]
def wsX5_course_r3 : List Cond := [Cond.code yX2_releaseDay cX2_releaseDay 1 (some .int), Cond.fieldLink RX2 43 "ParoleCards$Person" "released" "Z", Cond.fieldLink RX2 47 "ParoleCards$Person" "releasedOn" "I", Cond.fieldLink RX2 28 "ParoleCards$Person" "admittedOn" "I", Cond.fieldLink RX2 31 "ParoleCards$Person" "term" "I", Cond.fieldLink RX2 60 "ParoleCards$Person" "lostDays" "I", Cond.methodLink RX2 50 yX2_gainedDays, Cond.instanceMethod yX2_gainedDays, Cond.selects RX2 yX2_gainedDays yX2_gainedDays, Cond.code yX2_gainedDays cX2_gainedDays 1 (some .int), Cond.fieldLink RX2 37 "ParoleCards$Person" "workedDays" "I"]
def wsX5_course : List Cond := .code yX5_course cX5_course 5 (some .int) :: ((wsX5_course_r1 ++ (wsX5_course_r2 ++ wsX5_course_r3)) ++ wsX50 ++ wsX20 ++ (vx_atS RX5 180 "java/lang/IndexOutOfBoundsException" ["java/lang/RuntimeException", "java/lang/Exception"]).filter goodWord ++ (vx_atS RX5 231 "java/lang/IllegalArgumentException" ["java/lang/RuntimeException", "java/lang/Exception"]).filter goodWord ++ (vx_atS RX5 40 "java/lang/IllegalStateException" ["java/lang/RuntimeException", "java/lang/Exception"]).filter goodWord ++ (vx_atS RX2 77 "java/lang/IllegalStateException" ["java/lang/RuntimeException", "java/lang/Exception"]).filter goodWord)
def wsX5_offence_r1 : List Cond := [Cond.fieldLink RX5 43 "ParoleCards" "today" "I", Cond.methodLink RX5 48 yX5_findPerson, Cond.instanceMethod yX5_findPerson, Cond.selects RX5 yX5_findPerson yX5_findPerson, Cond.initialized RX5, Cond.code yX5_findPerson cX5_findPerson 3 (some (.object "ParoleCards$Person")), Cond.classLink RX5 176 "java/lang/IndexOutOfBoundsException", Cond.initialized "java/lang/IndexOutOfBoundsException", Cond.fieldLink RX5 11 "ParoleCards" "people" "[LParoleCards$Person;", Cond.methodLink RX5 28 yX5_checkRange, Cond.static yX5_checkRange, Cond.code yX5_checkRange cX5_checkRange 3 none, Cond.classLink RX5 227 "java/lang/IllegalArgumentException", Cond.initialized "java/lang/IllegalArgumentException", Cond.methodLink RX5 56 yX5_checkIn, Cond.static yX5_checkIn, Cond.code yX5_checkIn cX5_checkIn 1 none, Cond.classLink RX5 36 "java/lang/IllegalStateException", Cond.initialized "java/lang/IllegalStateException", Cond.fieldLink RX5 88 "ParoleCards$Person" "released" "Z", Cond.methodLink RX5 68 yX2_enterOffence, Cond.instanceMethod yX2_enterOffence, Cond.selects RX2 yX2_enterOffence yX2_enterOffence, Cond.initialized RX2]
def wsX5_offence_r2 : List Cond := [Cond.code yX2_enterOffence cX2_enterOffence 5 (some .int), Cond.classLink RX2 73 "java/lang/IllegalStateException", Cond.fieldLink RX2 66 "ParoleCards$Person" "offenceCount" "I", Cond.fieldLink RX2 17 "ParoleCards$Person" "offences" "[LParoleCards$Offence;", Cond.fieldLink RX2 9 "ParoleCards$Person" "regimeNow" "I", Cond.classLink RX2 15 RX0, Cond.instantiable RX0 4, Cond.initialized RX0, Cond.fieldLink RX2 60 "ParoleCards$Person" "lostDays" "I", Cond.methodLink RX2 69 yX2_hasRoomForPaper, Cond.instanceMethod yX2_hasRoomForPaper, Cond.selects RX2 yX2_hasRoomForPaper yX2_hasRoomForPaper, Cond.code yX2_hasRoomForPaper cX2_hasRoomForPaper 1 (some .boolean), Cond.fieldLink RX2 63 "ParoleCards$Person" "courseCount" "I", Cond.methodLink RX2 83 yX0_init, Cond.instanceMethod yX0_init, Cond.code yX0_init cX0_init 4 none, Cond.methodLink RX0 3 objectInit, Cond.instanceMethod objectInit, Cond.code objectInit ⟨#[0xb1]⟩ 1 none, Cond.fieldLink RX0 9 "ParoleCards$Offence" "day" "I", Cond.fieldLink RX0 15 "ParoleCards$Offence" "days" "I", Cond.fieldLink RX0 18 "ParoleCards$Offence" "loweredRegime" "Z", Cond.methodLink RX2 86 yX2_leaveOrder]
def wsX5_offence_r3 : List Cond := [Cond.instanceMethod yX2_leaveOrder, Cond.selects RX2 yX2_leaveOrder yX2_leaveOrder, Cond.code yX2_leaveOrder cX2_leaveOrder 2 none, Cond.fieldLink RX2 98 "ParoleCards$Person" "order" "LParoleCards$Order;", Cond.fieldLink RX2 102 "ParoleCards$Order" "peopleOnIt" "I", Cond.fieldLink RX2 107 "ParoleCards$Order" "tools" "LParoleCards$ToolKind;", Cond.fieldLink RX2 111 "ParoleCards$ToolKind" "countedOut" "I"]
def wsX5_offence : List Cond := .code yX5_offence cX5_offence 4 (some .int) :: ((wsX5_offence_r1 ++ (wsX5_offence_r2 ++ wsX5_offence_r3)) ++ wsX50 ++ wsX20 ++ wsX00 ++ wsX10 ++ wsX40 ++ (vx_atS RX5 180 "java/lang/IndexOutOfBoundsException" ["java/lang/RuntimeException", "java/lang/Exception"]).filter goodWord ++ (vx_atS RX5 231 "java/lang/IllegalArgumentException" ["java/lang/RuntimeException", "java/lang/Exception"]).filter goodWord ++ (vx_atS RX5 40 "java/lang/IllegalStateException" ["java/lang/RuntimeException", "java/lang/Exception"]).filter goodWord ++ (vx_atS RX2 77 "java/lang/IllegalStateException" ["java/lang/RuntimeException", "java/lang/Exception"]).filter goodWord)
def wsX5_findOffence : List Cond := .code yX5_findOffence cX5_findOffence 3 (some (.object "ParoleCards$Offence")) :: ([.classLink RX5 176 "java/lang/IndexOutOfBoundsException", .initialized "java/lang/IndexOutOfBoundsException", .fieldLink RX5 215 "ParoleCards$Person" "offences" "[LParoleCards$Offence;"] ++ wsX20 ++ (vx_atS RX5 180 "java/lang/IndexOutOfBoundsException" ["java/lang/RuntimeException", "java/lang/Exception"]).filter goodWord)
def wsX5_appeal_r1 : List Cond := [Cond.classLink RX5 36 "java/lang/IllegalStateException", Cond.initialized "java/lang/IllegalStateException", Cond.fieldLink RX5 76 "ParoleCards$Offence" "appealed" "Z", Cond.methodLink RX5 48 yX5_findPerson, Cond.instanceMethod yX5_findPerson, Cond.selects RX5 yX5_findPerson yX5_findPerson, Cond.initialized RX5, Cond.code yX5_findPerson cX5_findPerson 3 (some (.object "ParoleCards$Person")), Cond.classLink RX5 176 "java/lang/IndexOutOfBoundsException", Cond.initialized "java/lang/IndexOutOfBoundsException", Cond.fieldLink RX5 11 "ParoleCards" "people" "[LParoleCards$Person;", Cond.methodLink RX5 72 yX5_findOffence, Cond.static yX5_findOffence, Cond.code yX5_findOffence cX5_findOffence 3 (some (.object "ParoleCards$Offence")), Cond.fieldLink RX5 215 "ParoleCards$Person" "offences" "[LParoleCards$Offence;", Cond.methodLink RX5 56 yX5_checkIn, Cond.static yX5_checkIn, Cond.code yX5_checkIn cX5_checkIn 1 none, Cond.fieldLink RX5 88 "ParoleCards$Person" "released" "Z", Cond.methodLink RX5 84 yX2_appealOffence, Cond.instanceMethod yX2_appealOffence, Cond.selects RX2 yX2_appealOffence yX2_appealOffence, Cond.initialized RX2, Cond.code yX2_appealOffence cX2_appealOffence 2 none]
def wsX5_appeal_r2 : List Cond := [Cond.fieldLink RX2 89 "ParoleCards$Offence" "appealed" "Z", Cond.fieldLink RX2 60 "ParoleCards$Person" "lostDays" "I", Cond.fieldLink RX2 92 "ParoleCards$Offence" "days" "I", Cond.fieldLink RX2 95 "ParoleCards$Offence" "loweredRegime" "Z", Cond.methodLink RX2 80 yX2_raiseRegime, Cond.instanceMethod yX2_raiseRegime, Cond.selects RX2 yX2_raiseRegime yX2_raiseRegime, Cond.code yX2_raiseRegime cX2_raiseRegime 1 none, Cond.fieldLink RX2 9 "ParoleCards$Person" "regimeNow" "I", Cond.methodLink RX2 54 Lib.Math.min.name, Cond.static Lib.Math.min.name, Cond.initialized "java/lang/Math", Cond.code Lib.Math.min.name Lib.Math.min.code 2 (some .int), Cond.methodLink RX5 64 yX2_releaseDay, Cond.instanceMethod yX2_releaseDay, Cond.selects RX2 yX2_releaseDay yX2_releaseDay, Cond.code yX2_releaseDay cX2_releaseDay 1 (some .int), Cond.fieldLink RX2 43 "ParoleCards$Person" "released" "Z", Cond.fieldLink RX2 47 "ParoleCards$Person" "releasedOn" "I", Cond.fieldLink RX2 28 "ParoleCards$Person" "admittedOn" "I", Cond.fieldLink RX2 31 "ParoleCards$Person" "term" "I", Cond.methodLink RX2 50 yX2_gainedDays, Cond.instanceMethod yX2_gainedDays, Cond.selects RX2 yX2_gainedDays yX2_gainedDays]
def wsX5_appeal_r3 : List Cond := [Cond.code yX2_gainedDays cX2_gainedDays 1 (some .int), Cond.fieldLink RX2 37 "ParoleCards$Person" "workedDays" "I", Cond.fieldLink RX2 40 "ParoleCards$Person" "courseDays" "I"]
def wsX5_appeal : List Cond := .code yX5_appeal cX5_appeal 5 (some .int) :: ((wsX5_appeal_r1 ++ (wsX5_appeal_r2 ++ wsX5_appeal_r3)) ++ wsX00 ++ wsX50 ++ wsX20 ++ (vx_atS RX5 40 "java/lang/IllegalStateException" ["java/lang/RuntimeException", "java/lang/Exception"]).filter goodWord ++ (vx_atS RX5 180 "java/lang/IndexOutOfBoundsException" ["java/lang/RuntimeException", "java/lang/Exception"]).filter goodWord)
def wsX5_release_r1 : List Cond := [Cond.methodLink RX5 48 yX5_findPerson, Cond.instanceMethod yX5_findPerson, Cond.selects RX5 yX5_findPerson yX5_findPerson, Cond.initialized RX5, Cond.code yX5_findPerson cX5_findPerson 3 (some (.object "ParoleCards$Person")), Cond.classLink RX5 176 "java/lang/IndexOutOfBoundsException", Cond.initialized "java/lang/IndexOutOfBoundsException", Cond.fieldLink RX5 11 "ParoleCards" "people" "[LParoleCards$Person;", Cond.methodLink RX5 64 yX2_releaseDay, Cond.instanceMethod yX2_releaseDay, Cond.selects RX2 yX2_releaseDay yX2_releaseDay, Cond.initialized RX2, Cond.code yX2_releaseDay cX2_releaseDay 1 (some .int), Cond.fieldLink RX2 43 "ParoleCards$Person" "released" "Z", Cond.fieldLink RX2 47 "ParoleCards$Person" "releasedOn" "I", Cond.fieldLink RX2 28 "ParoleCards$Person" "admittedOn" "I", Cond.fieldLink RX2 31 "ParoleCards$Person" "term" "I", Cond.methodLink RX2 54 Lib.Math.min.name, Cond.static Lib.Math.min.name, Cond.initialized "java/lang/Math", Cond.code Lib.Math.min.name Lib.Math.min.code 2 (some .int), Cond.fieldLink RX2 60 "ParoleCards$Person" "lostDays" "I", Cond.methodLink RX2 50 yX2_gainedDays, Cond.instanceMethod yX2_gainedDays]
def wsX5_release_r2 : List Cond := [Cond.selects RX2 yX2_gainedDays yX2_gainedDays, Cond.code yX2_gainedDays cX2_gainedDays 1 (some .int), Cond.fieldLink RX2 37 "ParoleCards$Person" "workedDays" "I", Cond.fieldLink RX2 40 "ParoleCards$Person" "courseDays" "I"]
def wsX5_release : List Cond := .code yX5_release cX5_release 2 (some .int) :: ((wsX5_release_r1 ++ wsX5_release_r2) ++ wsX50 ++ wsX20 ++ (vx_atS RX5 180 "java/lang/IndexOutOfBoundsException" ["java/lang/RuntimeException", "java/lang/Exception"]).filter goodWord)
def wsX5_isIn : List Cond := .code yX5_isIn cX5_isIn 2 (some .boolean) :: ([.fieldLink RX5 88 "ParoleCards$Person" "released" "Z", .methodLink RX5 48 yX5_findPerson, .instanceMethod yX5_findPerson, .selects RX5 yX5_findPerson yX5_findPerson, .initialized RX5, .code yX5_findPerson cX5_findPerson 3 (some (.object "ParoleCards$Person")), .classLink RX5 176 "java/lang/IndexOutOfBoundsException", .initialized "java/lang/IndexOutOfBoundsException", .fieldLink RX5 11 "ParoleCards" "people" "[LParoleCards$Person;"] ++ wsX20 ++ wsX50 ++ (vx_atS RX5 180 "java/lang/IndexOutOfBoundsException" ["java/lang/RuntimeException", "java/lang/Exception"]).filter goodWord)
def wsX5_regime : List Cond := .code yX5_regime cX5_regime 2 (some .int) :: ([.fieldLink RX5 91 "ParoleCards$Person" "regimeNow" "I", .methodLink RX5 48 yX5_findPerson, .instanceMethod yX5_findPerson, .selects RX5 yX5_findPerson yX5_findPerson, .initialized RX5, .code yX5_findPerson cX5_findPerson 3 (some (.object "ParoleCards$Person")), .classLink RX5 176 "java/lang/IndexOutOfBoundsException", .initialized "java/lang/IndexOutOfBoundsException", .fieldLink RX5 11 "ParoleCards" "people" "[LParoleCards$Person;"] ++ wsX20 ++ wsX50 ++ (vx_atS RX5 180 "java/lang/IndexOutOfBoundsException" ["java/lang/RuntimeException", "java/lang/Exception"]).filter goodWord)
def wsX5_papers : List Cond := .code yX5_papers cX5_papers 4 (some .int) :: ([.fieldLink RX5 94 "ParoleCards$Person" "lostDays" "I", .methodLink RX5 48 yX5_findPerson, .instanceMethod yX5_findPerson, .selects RX5 yX5_findPerson yX5_findPerson, .initialized RX5, .code yX5_findPerson cX5_findPerson 3 (some (.object "ParoleCards$Person")), .classLink RX5 176 "java/lang/IndexOutOfBoundsException", .initialized "java/lang/IndexOutOfBoundsException", .fieldLink RX5 11 "ParoleCards" "people" "[LParoleCards$Person;", .methodLink RX5 97 yX2_gainedDays, .instanceMethod yX2_gainedDays, .selects RX2 yX2_gainedDays yX2_gainedDays, .initialized RX2, .code yX2_gainedDays cX2_gainedDays 1 (some .int), .fieldLink RX2 37 "ParoleCards$Person" "workedDays" "I", .fieldLink RX2 40 "ParoleCards$Person" "courseDays" "I"] ++ wsX20 ++ wsX50 ++ (vx_atS RX5 180 "java/lang/IndexOutOfBoundsException" ["java/lang/RuntimeException", "java/lang/Exception"]).filter goodWord)
def wsX5_findTools : List Cond := .code yX5_findTools cX5_findTools 3 (some (.object "ParoleCards$ToolKind")) :: ([.classLink RX5 176 "java/lang/IndexOutOfBoundsException", .initialized "java/lang/IndexOutOfBoundsException", .fieldLink RX5 23 "ParoleCards" "toolKinds" "[LParoleCards$ToolKind;"] ++ wsX50 ++ (vx_atS RX5 180 "java/lang/IndexOutOfBoundsException" ["java/lang/RuntimeException", "java/lang/Exception"]).filter goodWord)
def wsX5_setTools : List Cond := .code yX5_setTools cX5_setTools 5 (some .int) :: ([.classLink RX5 36 "java/lang/IllegalStateException", .initialized "java/lang/IllegalStateException", .fieldLink RX5 104 "ParoleCards$ToolKind" "countedOut" "I", .fieldLink RX5 109 "ParoleCards$ToolKind" "count" "I", .methodLink RX5 100 yX5_findTools, .instanceMethod yX5_findTools, .selects RX5 yX5_findTools yX5_findTools, .initialized RX5, .code yX5_findTools cX5_findTools 3 (some (.object "ParoleCards$ToolKind")), .classLink RX5 176 "java/lang/IndexOutOfBoundsException", .initialized "java/lang/IndexOutOfBoundsException", .fieldLink RX5 23 "ParoleCards" "toolKinds" "[LParoleCards$ToolKind;", .methodLink RX5 28 yX5_checkRange, .static yX5_checkRange, .code yX5_checkRange cX5_checkRange 3 none, .classLink RX5 227 "java/lang/IllegalArgumentException", .initialized "java/lang/IllegalArgumentException"] ++ wsX40 ++ wsX50 ++ (vx_atS RX5 40 "java/lang/IllegalStateException" ["java/lang/RuntimeException", "java/lang/Exception"]).filter goodWord ++ (vx_atS RX5 180 "java/lang/IndexOutOfBoundsException" ["java/lang/RuntimeException", "java/lang/Exception"]).filter goodWord ++ (vx_atS RX5 231 "java/lang/IllegalArgumentException" ["java/lang/RuntimeException", "java/lang/Exception"]).filter goodWord)
def wsX5_toolsOut : List Cond := .code yX5_toolsOut cX5_toolsOut 2 (some .int) :: ([.fieldLink RX5 104 "ParoleCards$ToolKind" "countedOut" "I", .methodLink RX5 100 yX5_findTools, .instanceMethod yX5_findTools, .selects RX5 yX5_findTools yX5_findTools, .initialized RX5, .code yX5_findTools cX5_findTools 3 (some (.object "ParoleCards$ToolKind")), .classLink RX5 176 "java/lang/IndexOutOfBoundsException", .initialized "java/lang/IndexOutOfBoundsException", .fieldLink RX5 23 "ParoleCards" "toolKinds" "[LParoleCards$ToolKind;"] ++ wsX40 ++ wsX50 ++ (vx_atS RX5 180 "java/lang/IndexOutOfBoundsException" ["java/lang/RuntimeException", "java/lang/Exception"]).filter goodWord)
def wsX5_addOrder_r1 : List Cond := [Cond.classLink RX5 36 "java/lang/IllegalStateException", Cond.initialized "java/lang/IllegalStateException", Cond.fieldLink RX5 112 "ParoleCards" "orderCount" "I", Cond.fieldLink RX5 17 "ParoleCards" "orders" "[LParoleCards$Order;", Cond.classLink RX5 15 RX1, Cond.instantiable RX1 6, Cond.initialized RX1, Cond.methodLink RX5 52 yX5_checkSkill, Cond.static yX5_checkSkill, Cond.initialized RX5, Cond.code yX5_checkSkill cX5_checkSkill 1 none, Cond.classLink RX5 176 "java/lang/IndexOutOfBoundsException", Cond.initialized "java/lang/IndexOutOfBoundsException", Cond.methodLink RX5 100 yX5_findTools, Cond.instanceMethod yX5_findTools, Cond.selects RX5 yX5_findTools yX5_findTools, Cond.code yX5_findTools cX5_findTools 3 (some (.object "ParoleCards$ToolKind")), Cond.fieldLink RX5 23 "ParoleCards" "toolKinds" "[LParoleCards$ToolKind;", Cond.methodLink RX5 28 yX5_checkRange, Cond.static yX5_checkRange, Cond.code yX5_checkRange cX5_checkRange 3 none, Cond.classLink RX5 227 "java/lang/IllegalArgumentException", Cond.initialized "java/lang/IllegalArgumentException", Cond.methodLink RX5 117 yX1_init]
def wsX5_addOrder_r2 : List Cond := [Cond.instanceMethod yX1_init, Cond.code yX1_init cX1_init 6 none, Cond.methodLink RX1 1 objectInit, Cond.instanceMethod objectInit, Cond.code objectInit ⟨#[0xb1]⟩ 1 none, Cond.fieldLink RX1 7 "ParoleCards$Order" "number" "I", Cond.fieldLink RX1 13 "ParoleCards$Order" "skill" "I", Cond.fieldLink RX1 16 "ParoleCards$Order" "tools" "LParoleCards$ToolKind;", Cond.fieldLink RX1 20 "ParoleCards$Order" "workLeft" "I", Cond.fieldLink RX1 23 "ParoleCards$Order" "wage" "I"]
def wsX5_addOrder : List Cond := .code yX5_addOrder cX5_addOrder 7 (some .int) :: ((wsX5_addOrder_r1 ++ wsX5_addOrder_r2) ++ wsX50 ++ wsX10 ++ (vx_atS RX5 40 "java/lang/IllegalStateException" ["java/lang/RuntimeException", "java/lang/Exception"]).filter goodWord ++ (vx_atS RX5 180 "java/lang/IndexOutOfBoundsException" ["java/lang/RuntimeException", "java/lang/Exception"]).filter goodWord ++ (vx_atS RX5 231 "java/lang/IllegalArgumentException" ["java/lang/RuntimeException", "java/lang/Exception"]).filter goodWord)
def wsX5_findOrder : List Cond := .code yX5_findOrder cX5_findOrder 3 (some (.object "ParoleCards$Order")) :: ([.classLink RX5 176 "java/lang/IndexOutOfBoundsException", .initialized "java/lang/IndexOutOfBoundsException", .fieldLink RX5 17 "ParoleCards" "orders" "[LParoleCards$Order;"] ++ wsX50 ++ (vx_atS RX5 180 "java/lang/IndexOutOfBoundsException" ["java/lang/RuntimeException", "java/lang/Exception"]).filter goodWord)
def wsX5_assign_r1 : List Cond := [Cond.classLink RX5 36 "java/lang/IllegalStateException", Cond.initialized "java/lang/IllegalStateException", Cond.fieldLink RX5 124 "ParoleCards$Person" "order" "LParoleCards$Order;", Cond.fieldLink RX5 130 "ParoleCards$Order" "skill" "I", Cond.fieldLink RX5 152 "ParoleCards$Order" "peopleOnIt" "I", Cond.methodLink RX5 48 yX5_findPerson, Cond.instanceMethod yX5_findPerson, Cond.selects RX5 yX5_findPerson yX5_findPerson, Cond.initialized RX5, Cond.code yX5_findPerson cX5_findPerson 3 (some (.object "ParoleCards$Person")), Cond.classLink RX5 176 "java/lang/IndexOutOfBoundsException", Cond.initialized "java/lang/IndexOutOfBoundsException", Cond.fieldLink RX5 11 "ParoleCards" "people" "[LParoleCards$Person;", Cond.methodLink RX5 120 yX5_findOrder, Cond.instanceMethod yX5_findOrder, Cond.selects RX5 yX5_findOrder yX5_findOrder, Cond.code yX5_findOrder cX5_findOrder 3 (some (.object "ParoleCards$Order")), Cond.fieldLink RX5 17 "ParoleCards" "orders" "[LParoleCards$Order;", Cond.methodLink RX5 56 yX5_checkIn, Cond.static yX5_checkIn, Cond.code yX5_checkIn cX5_checkIn 1 none, Cond.fieldLink RX5 88 "ParoleCards$Person" "released" "Z", Cond.methodLink RX5 133 yX2_hasSkill, Cond.instanceMethod yX2_hasSkill]
def wsX5_assign_r2 : List Cond := [Cond.selects RX2 yX2_hasSkill yX2_hasSkill, Cond.initialized RX2, Cond.code yX2_hasSkill cX2_hasSkill 2 (some .boolean), Cond.fieldLink RX2 34 "ParoleCards$Person" "skills" "I", Cond.methodLink RX5 139 yX1_isFinished, Cond.instanceMethod yX1_isFinished, Cond.selects RX1 yX1_isFinished yX1_isFinished, Cond.initialized RX1, Cond.code yX1_isFinished cX1_isFinished 1 (some .boolean), Cond.fieldLink RX1 20 "ParoleCards$Order" "workLeft" "I", Cond.methodLink RX5 143 yX1_hasFreeTool, Cond.instanceMethod yX1_hasFreeTool, Cond.selects RX1 yX1_hasFreeTool yX1_hasFreeTool, Cond.code yX1_hasFreeTool cX1_hasFreeTool 1 (some .boolean), Cond.fieldLink RX1 16 "ParoleCards$Order" "tools" "LParoleCards$ToolKind;", Cond.fieldLink RX1 26 "ParoleCards$ToolKind" "countedOut" "I", Cond.fieldLink RX1 31 "ParoleCards$ToolKind" "count" "I", Cond.methodLink RX5 148 yX2_joinOrder, Cond.instanceMethod yX2_joinOrder, Cond.selects RX2 yX2_joinOrder yX2_joinOrder, Cond.code yX2_joinOrder cX2_joinOrder 2 none, Cond.fieldLink RX2 98 "ParoleCards$Person" "order" "LParoleCards$Order;", Cond.fieldLink RX2 102 "ParoleCards$Order" "peopleOnIt" "I", Cond.fieldLink RX2 107 "ParoleCards$Order" "tools" "LParoleCards$ToolKind;"]
def wsX5_assign_r3 : List Cond := [Cond.fieldLink RX2 111 "ParoleCards$ToolKind" "countedOut" "I"]
def wsX5_assign : List Cond := .code yX5_assign cX5_assign 5 (some .int) :: ((wsX5_assign_r1 ++ (wsX5_assign_r2 ++ wsX5_assign_r3)) ++ wsX20 ++ wsX10 ++ wsX50 ++ wsX40 ++ (vx_atS RX5 40 "java/lang/IllegalStateException" ["java/lang/RuntimeException", "java/lang/Exception"]).filter goodWord ++ (vx_atS RX5 180 "java/lang/IndexOutOfBoundsException" ["java/lang/RuntimeException", "java/lang/Exception"]).filter goodWord)
def wsX5_takeOff : List Cond := .code yX5_takeOff cX5_takeOff 4 (some .int) :: ([.classLink RX5 36 "java/lang/IllegalStateException", .initialized "java/lang/IllegalStateException", .fieldLink RX5 124 "ParoleCards$Person" "order" "LParoleCards$Order;", .fieldLink RX5 160 "ParoleCards$Order" "number" "I", .methodLink RX5 48 yX5_findPerson, .instanceMethod yX5_findPerson, .selects RX5 yX5_findPerson yX5_findPerson, .initialized RX5, .code yX5_findPerson cX5_findPerson 3 (some (.object "ParoleCards$Person")), .classLink RX5 176 "java/lang/IndexOutOfBoundsException", .initialized "java/lang/IndexOutOfBoundsException", .fieldLink RX5 11 "ParoleCards" "people" "[LParoleCards$Person;", .methodLink RX5 157 yX2_leaveOrder, .instanceMethod yX2_leaveOrder, .selects RX2 yX2_leaveOrder yX2_leaveOrder, .initialized RX2, .code yX2_leaveOrder cX2_leaveOrder 2 none, .fieldLink RX2 98 "ParoleCards$Person" "order" "LParoleCards$Order;", .fieldLink RX2 102 "ParoleCards$Order" "peopleOnIt" "I", .fieldLink RX2 107 "ParoleCards$Order" "tools" "LParoleCards$ToolKind;", .fieldLink RX2 111 "ParoleCards$ToolKind" "countedOut" "I"] ++ wsX20 ++ wsX10 ++ wsX50 ++ wsX40 ++ (vx_atS RX5 40 "java/lang/IllegalStateException" ["java/lang/RuntimeException", "java/lang/Exception"]).filter goodWord ++ (vx_atS RX5 180 "java/lang/IndexOutOfBoundsException" ["java/lang/RuntimeException", "java/lang/Exception"]).filter goodWord)
def wsX5_orderOf : List Cond := .code yX5_orderOf cX5_orderOf 3 (some .int) :: ([.fieldLink RX5 124 "ParoleCards$Person" "order" "LParoleCards$Order;", .fieldLink RX5 160 "ParoleCards$Order" "number" "I", .methodLink RX5 48 yX5_findPerson, .instanceMethod yX5_findPerson, .selects RX5 yX5_findPerson yX5_findPerson, .initialized RX5, .code yX5_findPerson cX5_findPerson 3 (some (.object "ParoleCards$Person")), .classLink RX5 176 "java/lang/IndexOutOfBoundsException", .initialized "java/lang/IndexOutOfBoundsException", .fieldLink RX5 11 "ParoleCards" "people" "[LParoleCards$Person;"] ++ wsX20 ++ wsX10 ++ wsX50 ++ (vx_atS RX5 180 "java/lang/IndexOutOfBoundsException" ["java/lang/RuntimeException", "java/lang/Exception"]).filter goodWord)
def wsX5_left : List Cond := .code yX5_left cX5_left 2 (some .int) :: ([.fieldLink RX5 163 "ParoleCards$Order" "workLeft" "I", .methodLink RX5 120 yX5_findOrder, .instanceMethod yX5_findOrder, .selects RX5 yX5_findOrder yX5_findOrder, .initialized RX5, .code yX5_findOrder cX5_findOrder 3 (some (.object "ParoleCards$Order")), .classLink RX5 176 "java/lang/IndexOutOfBoundsException", .initialized "java/lang/IndexOutOfBoundsException", .fieldLink RX5 17 "ParoleCards" "orders" "[LParoleCards$Order;"] ++ wsX10 ++ wsX50 ++ (vx_atS RX5 180 "java/lang/IndexOutOfBoundsException" ["java/lang/RuntimeException", "java/lang/Exception"]).filter goodWord)
def wsX5_account : List Cond := .code yX5_account cX5_account 4 (some .int) :: ([.classLink RX5 176 "java/lang/IndexOutOfBoundsException", .initialized "java/lang/IndexOutOfBoundsException", .fieldLink RX5 166 "ParoleCards$Person" "purse" "LParoleCards$Purse;", .fieldLink RX5 170 "ParoleCards$Purse" "accounts" "[I", .methodLink RX5 48 yX5_findPerson, .instanceMethod yX5_findPerson, .selects RX5 yX5_findPerson yX5_findPerson, .initialized RX5, .code yX5_findPerson cX5_findPerson 3 (some (.object "ParoleCards$Person")), .fieldLink RX5 11 "ParoleCards" "people" "[LParoleCards$Person;"] ++ wsX20 ++ wsX30 ++ wsX50 ++ (vx_atS RX5 180 "java/lang/IndexOutOfBoundsException" ["java/lang/RuntimeException", "java/lang/Exception"]).filter goodWord)
def wsX5_buy_r1 : List Cond := [Cond.classLink RX5 36 "java/lang/IllegalStateException", Cond.initialized "java/lang/IllegalStateException", Cond.fieldLink RX5 166 "ParoleCards$Person" "purse" "LParoleCards$Purse;", Cond.fieldLink RX5 170 "ParoleCards$Purse" "accounts" "[I", Cond.fieldLink RX5 43 "ParoleCards" "today" "I", Cond.methodLink RX5 48 yX5_findPerson, Cond.instanceMethod yX5_findPerson, Cond.selects RX5 yX5_findPerson yX5_findPerson, Cond.initialized RX5, Cond.code yX5_findPerson cX5_findPerson 3 (some (.object "ParoleCards$Person")), Cond.classLink RX5 176 "java/lang/IndexOutOfBoundsException", Cond.initialized "java/lang/IndexOutOfBoundsException", Cond.fieldLink RX5 11 "ParoleCards" "people" "[LParoleCards$Person;", Cond.methodLink RX5 28 yX5_checkRange, Cond.static yX5_checkRange, Cond.code yX5_checkRange cX5_checkRange 3 none, Cond.classLink RX5 227 "java/lang/IllegalArgumentException", Cond.initialized "java/lang/IllegalArgumentException", Cond.methodLink RX5 56 yX5_checkIn, Cond.static yX5_checkIn, Cond.code yX5_checkIn cX5_checkIn 1 none, Cond.fieldLink RX5 88 "ParoleCards$Person" "released" "Z", Cond.methodLink RX5 183 yX2_mayStillBuy, Cond.instanceMethod yX2_mayStillBuy]
def wsX5_buy_r2 : List Cond := [Cond.selects RX2 yX2_mayStillBuy yX2_mayStillBuy, Cond.initialized RX2, Cond.code yX2_mayStillBuy cX2_mayStillBuy 2 (some .int), Cond.fieldLink RX2 43 "ParoleCards$Person" "released" "Z", Cond.fieldLink RX2 24 "ParoleCards$Person" "purse" "LParoleCards$Purse;", Cond.methodLink RX2 133 Lib.Math.max.name, Cond.static Lib.Math.max.name, Cond.initialized "java/lang/Math", Cond.code Lib.Math.max.name Lib.Math.max.code 2 (some .int), Cond.methodLink RX2 136 yX2_limitOfSpan, Cond.instanceMethod yX2_limitOfSpan, Cond.selects RX2 yX2_limitOfSpan yX2_limitOfSpan, Cond.code yX2_limitOfSpan cX2_limitOfSpan 7 (some .int), Cond.fieldLink RX2 9 "ParoleCards$Person" "regimeNow" "I", Cond.fieldLink RX2 17 "ParoleCards$Person" "offences" "[LParoleCards$Offence;", Cond.methodLink RX2 129 yX0_lowersLimitOn, Cond.instanceMethod yX0_lowersLimitOn, Cond.selects RX0 yX0_lowersLimitOn yX0_lowersLimitOn, Cond.initialized RX0, Cond.code yX0_lowersLimitOn cX0_lowersLimitOn 2 (some .boolean), Cond.fieldLink RX0 22 "ParoleCards$Offence" "appealed" "Z", Cond.fieldLink RX0 9 "ParoleCards$Offence" "day" "I", Cond.methodLink RX2 140 yX3_boughtInSpan, Cond.instanceMethod yX3_boughtInSpan]
def wsX5_buy_r3 : List Cond := [Cond.selects RX3 yX3_boughtInSpan yX3_boughtInSpan, Cond.initialized RX3, Cond.code yX3_boughtInSpan cX3_boughtInSpan 2 (some .int), Cond.fieldLink RX3 15 "ParoleCards$Purse" "lastSpan" "I", Cond.fieldLink RX3 19 "ParoleCards$Purse" "boughtInLastSpan" "I", Cond.methodLink RX5 189 yX3_spend, Cond.instanceMethod yX3_spend, Cond.selects RX3 yX3_spend yX3_spend, Cond.code yX3_spend cX3_spend 3 none, Cond.fieldLink RX3 9 "ParoleCards$Purse" "accounts" "[I", Cond.methodLink RX3 22 yX3_boughtInSpan]
def wsX5_buy : List Cond := .code yX5_buy cX5_buy 5 (some .int) :: ((wsX5_buy_r1 ++ (wsX5_buy_r2 ++ wsX5_buy_r3)) ++ wsX20 ++ wsX30 ++ wsX50 ++ wsX00 ++ (vx_atS RX5 40 "java/lang/IllegalStateException" ["java/lang/RuntimeException", "java/lang/Exception"]).filter goodWord ++ (vx_atS RX5 180 "java/lang/IndexOutOfBoundsException" ["java/lang/RuntimeException", "java/lang/Exception"]).filter goodWord ++ (vx_atS RX5 231 "java/lang/IllegalArgumentException" ["java/lang/RuntimeException", "java/lang/Exception"]).filter goodWord)
def wsX5_limit_r1 : List Cond := [Cond.fieldLink RX5 43 "ParoleCards" "today" "I", Cond.methodLink RX5 48 yX5_findPerson, Cond.instanceMethod yX5_findPerson, Cond.selects RX5 yX5_findPerson yX5_findPerson, Cond.initialized RX5, Cond.code yX5_findPerson cX5_findPerson 3 (some (.object "ParoleCards$Person")), Cond.classLink RX5 176 "java/lang/IndexOutOfBoundsException", Cond.initialized "java/lang/IndexOutOfBoundsException", Cond.fieldLink RX5 11 "ParoleCards" "people" "[LParoleCards$Person;", Cond.methodLink RX5 183 yX2_mayStillBuy, Cond.instanceMethod yX2_mayStillBuy, Cond.selects RX2 yX2_mayStillBuy yX2_mayStillBuy, Cond.initialized RX2, Cond.code yX2_mayStillBuy cX2_mayStillBuy 2 (some .int), Cond.fieldLink RX2 43 "ParoleCards$Person" "released" "Z", Cond.fieldLink RX2 24 "ParoleCards$Person" "purse" "LParoleCards$Purse;", Cond.methodLink RX2 133 Lib.Math.max.name, Cond.static Lib.Math.max.name, Cond.initialized "java/lang/Math", Cond.code Lib.Math.max.name Lib.Math.max.code 2 (some .int), Cond.methodLink RX2 136 yX2_limitOfSpan, Cond.instanceMethod yX2_limitOfSpan, Cond.selects RX2 yX2_limitOfSpan yX2_limitOfSpan, Cond.code yX2_limitOfSpan cX2_limitOfSpan 7 (some .int)]
def wsX5_limit_r2 : List Cond := [Cond.fieldLink RX2 9 "ParoleCards$Person" "regimeNow" "I", Cond.fieldLink RX2 17 "ParoleCards$Person" "offences" "[LParoleCards$Offence;", Cond.methodLink RX2 129 yX0_lowersLimitOn, Cond.instanceMethod yX0_lowersLimitOn, Cond.selects RX0 yX0_lowersLimitOn yX0_lowersLimitOn, Cond.initialized RX0, Cond.code yX0_lowersLimitOn cX0_lowersLimitOn 2 (some .boolean), Cond.fieldLink RX0 22 "ParoleCards$Offence" "appealed" "Z", Cond.fieldLink RX0 9 "ParoleCards$Offence" "day" "I", Cond.methodLink RX2 140 yX3_boughtInSpan, Cond.instanceMethod yX3_boughtInSpan, Cond.selects RX3 yX3_boughtInSpan yX3_boughtInSpan, Cond.initialized RX3, Cond.code yX3_boughtInSpan cX3_boughtInSpan 2 (some .int), Cond.fieldLink RX3 15 "ParoleCards$Purse" "lastSpan" "I", Cond.fieldLink RX3 19 "ParoleCards$Purse" "boughtInLastSpan" "I"]
def wsX5_limit : List Cond := .code yX5_limit cX5_limit 2 (some .int) :: ((wsX5_limit_r1 ++ wsX5_limit_r2) ++ wsX50 ++ wsX20 ++ wsX00 ++ wsX30 ++ (vx_atS RX5 180 "java/lang/IndexOutOfBoundsException" ["java/lang/RuntimeException", "java/lang/Exception"]).filter goodWord)
def wsX5_paidOut : List Cond := .code yX5_paidOut cX5_paidOut 2 (some .int) :: ([.fieldLink RX5 166 "ParoleCards$Person" "purse" "LParoleCards$Purse;", .fieldLink RX5 192 "ParoleCards$Purse" "paidOutSum" "I", .methodLink RX5 48 yX5_findPerson, .instanceMethod yX5_findPerson, .selects RX5 yX5_findPerson yX5_findPerson, .initialized RX5, .code yX5_findPerson cX5_findPerson 3 (some (.object "ParoleCards$Person")), .classLink RX5 176 "java/lang/IndexOutOfBoundsException", .initialized "java/lang/IndexOutOfBoundsException", .fieldLink RX5 11 "ParoleCards" "people" "[LParoleCards$Person;"] ++ wsX20 ++ wsX30 ++ wsX50 ++ (vx_atS RX5 180 "java/lang/IndexOutOfBoundsException" ["java/lang/RuntimeException", "java/lang/Exception"]).filter goodWord)
def wsX5_workInTheShop_r1 : List Cond := [Cond.fieldLink RX5 11 "ParoleCards" "people" "[LParoleCards$Person;", Cond.methodLink RX5 201 yX2_workOneDay, Cond.instanceMethod yX2_workOneDay, Cond.selects RX2 yX2_workOneDay yX2_workOneDay, Cond.initialized RX2, Cond.code yX2_workOneDay cX2_workOneDay 2 none, Cond.fieldLink RX2 98 "ParoleCards$Person" "order" "LParoleCards$Order;", Cond.fieldLink RX2 119 "ParoleCards$Order" "workLeft" "I", Cond.fieldLink RX2 37 "ParoleCards$Person" "workedDays" "I", Cond.fieldLink RX2 24 "ParoleCards$Person" "purse" "LParoleCards$Purse;", Cond.fieldLink RX2 122 "ParoleCards$Order" "wage" "I", Cond.methodLink RX2 116 yX1_isFinished, Cond.instanceMethod yX1_isFinished, Cond.selects RX1 yX1_isFinished yX1_isFinished, Cond.initialized RX1, Cond.code yX1_isFinished cX1_isFinished 1 (some .boolean), Cond.fieldLink RX1 20 "ParoleCards$Order" "workLeft" "I", Cond.methodLink RX2 125 yX3_partWage, Cond.instanceMethod yX3_partWage, Cond.selects RX3 yX3_partWage yX3_partWage, Cond.initialized RX3, Cond.code yX3_partWage cX3_partWage 5 none, Cond.fieldLink RX3 9 "ParoleCards$Purse" "accounts" "[I", Cond.methodLink RX5 204 yX2_leaveFinishedOrder]
def wsX5_workInTheShop_r2 : List Cond := [Cond.instanceMethod yX2_leaveFinishedOrder, Cond.selects RX2 yX2_leaveFinishedOrder yX2_leaveFinishedOrder, Cond.code yX2_leaveFinishedOrder cX2_leaveFinishedOrder 2 none, Cond.methodLink RX2 86 yX2_leaveOrder, Cond.instanceMethod yX2_leaveOrder, Cond.selects RX2 yX2_leaveOrder yX2_leaveOrder, Cond.code yX2_leaveOrder cX2_leaveOrder 2 none, Cond.fieldLink RX2 102 "ParoleCards$Order" "peopleOnIt" "I", Cond.fieldLink RX2 107 "ParoleCards$Order" "tools" "LParoleCards$ToolKind;", Cond.fieldLink RX2 111 "ParoleCards$ToolKind" "countedOut" "I"]
def wsX5_workInTheShop : List Cond := .code yX5_workInTheShop cX5_workInTheShop 5 none :: ((wsX5_workInTheShop_r1 ++ wsX5_workInTheShop_r2) ++ wsX50 ++ wsX20 ++ wsX10 ++ wsX30 ++ wsX40)
def wsX5_letGoThoseDue_r1 : List Cond := [Cond.fieldLink RX5 11 "ParoleCards" "people" "[LParoleCards$Person;", Cond.fieldLink RX5 43 "ParoleCards" "today" "I", Cond.methodLink RX5 207 yX2_isDue, Cond.instanceMethod yX2_isDue, Cond.selects RX2 yX2_isDue yX2_isDue, Cond.initialized RX2, Cond.code yX2_isDue cX2_isDue 2 (some .boolean), Cond.fieldLink RX2 43 "ParoleCards$Person" "released" "Z", Cond.methodLink RX2 143 yX2_releaseDay, Cond.instanceMethod yX2_releaseDay, Cond.selects RX2 yX2_releaseDay yX2_releaseDay, Cond.code yX2_releaseDay cX2_releaseDay 1 (some .int), Cond.fieldLink RX2 47 "ParoleCards$Person" "releasedOn" "I", Cond.fieldLink RX2 28 "ParoleCards$Person" "admittedOn" "I", Cond.fieldLink RX2 31 "ParoleCards$Person" "term" "I", Cond.methodLink RX2 54 Lib.Math.min.name, Cond.static Lib.Math.min.name, Cond.initialized "java/lang/Math", Cond.code Lib.Math.min.name Lib.Math.min.code 2 (some .int), Cond.fieldLink RX2 60 "ParoleCards$Person" "lostDays" "I", Cond.methodLink RX2 50 yX2_gainedDays, Cond.instanceMethod yX2_gainedDays, Cond.selects RX2 yX2_gainedDays yX2_gainedDays, Cond.code yX2_gainedDays cX2_gainedDays 1 (some .int)]
def wsX5_letGoThoseDue_r2 : List Cond := [Cond.fieldLink RX2 37 "ParoleCards$Person" "workedDays" "I", Cond.fieldLink RX2 40 "ParoleCards$Person" "courseDays" "I", Cond.methodLink RX5 210 yX2_letGo, Cond.instanceMethod yX2_letGo, Cond.selects RX2 yX2_letGo yX2_letGo, Cond.code yX2_letGo cX2_letGo 2 none, Cond.fieldLink RX2 24 "ParoleCards$Person" "purse" "LParoleCards$Purse;", Cond.methodLink RX2 86 yX2_leaveOrder, Cond.instanceMethod yX2_leaveOrder, Cond.selects RX2 yX2_leaveOrder yX2_leaveOrder, Cond.code yX2_leaveOrder cX2_leaveOrder 2 none, Cond.fieldLink RX2 98 "ParoleCards$Person" "order" "LParoleCards$Order;", Cond.fieldLink RX2 102 "ParoleCards$Order" "peopleOnIt" "I", Cond.fieldLink RX2 107 "ParoleCards$Order" "tools" "LParoleCards$ToolKind;", Cond.fieldLink RX2 111 "ParoleCards$ToolKind" "countedOut" "I", Cond.methodLink RX2 146 yX3_payOut, Cond.instanceMethod yX3_payOut, Cond.selects RX3 yX3_payOut yX3_payOut, Cond.initialized RX3, Cond.code yX3_payOut cX3_payOut 1 none, Cond.fieldLink RX3 9 "ParoleCards$Purse" "accounts" "[I", Cond.fieldLink RX3 26 "ParoleCards$Purse" "paidOutSum" "I"]
def wsX5_letGoThoseDue : List Cond := .code yX5_letGoThoseDue cX5_letGoThoseDue 6 (some .int) :: ((wsX5_letGoThoseDue_r1 ++ wsX5_letGoThoseDue_r2) ++ wsX50 ++ wsX20 ++ wsX10 ++ wsX40 ++ wsX30)
def wsX5_pass_r1 : List Cond := [Cond.fieldLink RX5 43 "ParoleCards" "today" "I", Cond.methodLink RX5 28 yX5_checkRange, Cond.static yX5_checkRange, Cond.initialized RX5, Cond.code yX5_checkRange cX5_checkRange 3 none, Cond.classLink RX5 227 "java/lang/IllegalArgumentException", Cond.initialized "java/lang/IllegalArgumentException", Cond.methodLink RX5 195 yX5_workInTheShop, Cond.instanceMethod yX5_workInTheShop, Cond.selects RX5 yX5_workInTheShop yX5_workInTheShop, Cond.code yX5_workInTheShop cX5_workInTheShop 5 none, Cond.fieldLink RX5 11 "ParoleCards" "people" "[LParoleCards$Person;", Cond.methodLink RX5 201 yX2_workOneDay, Cond.instanceMethod yX2_workOneDay, Cond.selects RX2 yX2_workOneDay yX2_workOneDay, Cond.initialized RX2, Cond.code yX2_workOneDay cX2_workOneDay 2 none, Cond.fieldLink RX2 98 "ParoleCards$Person" "order" "LParoleCards$Order;", Cond.fieldLink RX2 119 "ParoleCards$Order" "workLeft" "I", Cond.fieldLink RX2 37 "ParoleCards$Person" "workedDays" "I", Cond.fieldLink RX2 24 "ParoleCards$Person" "purse" "LParoleCards$Purse;", Cond.fieldLink RX2 122 "ParoleCards$Order" "wage" "I", Cond.methodLink RX2 116 yX1_isFinished, Cond.instanceMethod yX1_isFinished]
def wsX5_pass_r2 : List Cond := [Cond.selects RX1 yX1_isFinished yX1_isFinished, Cond.initialized RX1, Cond.code yX1_isFinished cX1_isFinished 1 (some .boolean), Cond.fieldLink RX1 20 "ParoleCards$Order" "workLeft" "I", Cond.methodLink RX2 125 yX3_partWage, Cond.instanceMethod yX3_partWage, Cond.selects RX3 yX3_partWage yX3_partWage, Cond.initialized RX3, Cond.code yX3_partWage cX3_partWage 5 none, Cond.fieldLink RX3 9 "ParoleCards$Purse" "accounts" "[I", Cond.methodLink RX5 204 yX2_leaveFinishedOrder, Cond.instanceMethod yX2_leaveFinishedOrder, Cond.selects RX2 yX2_leaveFinishedOrder yX2_leaveFinishedOrder, Cond.code yX2_leaveFinishedOrder cX2_leaveFinishedOrder 2 none, Cond.methodLink RX2 86 yX2_leaveOrder, Cond.instanceMethod yX2_leaveOrder, Cond.selects RX2 yX2_leaveOrder yX2_leaveOrder, Cond.code yX2_leaveOrder cX2_leaveOrder 2 none, Cond.fieldLink RX2 102 "ParoleCards$Order" "peopleOnIt" "I", Cond.fieldLink RX2 107 "ParoleCards$Order" "tools" "LParoleCards$ToolKind;", Cond.fieldLink RX2 111 "ParoleCards$ToolKind" "countedOut" "I", Cond.methodLink RX5 198 yX5_letGoThoseDue, Cond.instanceMethod yX5_letGoThoseDue, Cond.selects RX5 yX5_letGoThoseDue yX5_letGoThoseDue]
def wsX5_pass_r3 : List Cond := [Cond.code yX5_letGoThoseDue cX5_letGoThoseDue 6 (some .int), Cond.methodLink RX5 207 yX2_isDue, Cond.instanceMethod yX2_isDue, Cond.selects RX2 yX2_isDue yX2_isDue, Cond.code yX2_isDue cX2_isDue 2 (some .boolean), Cond.fieldLink RX2 43 "ParoleCards$Person" "released" "Z", Cond.methodLink RX2 143 yX2_releaseDay, Cond.instanceMethod yX2_releaseDay, Cond.selects RX2 yX2_releaseDay yX2_releaseDay, Cond.code yX2_releaseDay cX2_releaseDay 1 (some .int), Cond.fieldLink RX2 47 "ParoleCards$Person" "releasedOn" "I", Cond.fieldLink RX2 28 "ParoleCards$Person" "admittedOn" "I", Cond.fieldLink RX2 31 "ParoleCards$Person" "term" "I", Cond.methodLink RX2 54 Lib.Math.min.name, Cond.static Lib.Math.min.name, Cond.initialized "java/lang/Math", Cond.code Lib.Math.min.name Lib.Math.min.code 2 (some .int), Cond.fieldLink RX2 60 "ParoleCards$Person" "lostDays" "I", Cond.methodLink RX2 50 yX2_gainedDays, Cond.instanceMethod yX2_gainedDays, Cond.selects RX2 yX2_gainedDays yX2_gainedDays, Cond.code yX2_gainedDays cX2_gainedDays 1 (some .int), Cond.fieldLink RX2 40 "ParoleCards$Person" "courseDays" "I", Cond.methodLink RX5 210 yX2_letGo]
def wsX5_pass_r4 : List Cond := [Cond.instanceMethod yX2_letGo, Cond.selects RX2 yX2_letGo yX2_letGo, Cond.code yX2_letGo cX2_letGo 2 none, Cond.methodLink RX2 146 yX3_payOut, Cond.instanceMethod yX3_payOut, Cond.selects RX3 yX3_payOut yX3_payOut, Cond.code yX3_payOut cX3_payOut 1 none, Cond.fieldLink RX3 26 "ParoleCards$Purse" "paidOutSum" "I"]
def wsX5_pass : List Cond := .code yX5_pass cX5_pass 4 (some .int) :: ((wsX5_pass_r1 ++ (wsX5_pass_r2 ++ (wsX5_pass_r3 ++ wsX5_pass_r4))) ++ wsX50 ++ wsX20 ++ wsX10 ++ wsX30 ++ wsX40 ++ (vx_atS RX5 231 "java/lang/IllegalArgumentException" ["java/lang/RuntimeException", "java/lang/Exception"]).filter goodWord)
def wsX6_init_r1 : List Cond := [Cond.methodLink RX6 1 objectInit, Cond.instanceMethod objectInit, Cond.code objectInit ⟨#[0xb1]⟩ 1 none, Cond.arrayClass .boolean, Cond.fieldLink RX6 7 "ParoleCardsModel" "isOut" "[Z", Cond.arrayClass .int, Cond.fieldLink RX6 13 "ParoleCardsModel" "since" "[I", Cond.fieldLink RX6 17 "ParoleCardsModel" "term" "[I", Cond.fieldLink RX6 20 "ParoleCardsModel" "skills" "[I", Cond.fieldLink RX6 23 "ParoleCardsModel" "regime" "[I", Cond.fieldLink RX6 26 "ParoleCardsModel" "worked" "[I", Cond.fieldLink RX6 29 "ParoleCardsModel" "gained" "[I", Cond.fieldLink RX6 32 "ParoleCardsModel" "papers" "[I", Cond.fieldLink RX6 35 "ParoleCardsModel" "offences" "[I", Cond.fieldLink RX6 38 "ParoleCardsModel" "on" "[I", Cond.fieldLink RX6 41 "ParoleCardsModel" "released" "[I", Cond.fieldLink RX6 44 "ParoleCardsModel" "paid" "[I", Cond.fieldLink RX6 47 "ParoleCardsModel" "account" "[I", Cond.fieldLink RX6 50 "ParoleCardsModel" "span" "[I", Cond.fieldLink RX6 53 "ParoleCardsModel" "bought" "[I", Cond.fieldLink RX6 56 "ParoleCardsModel" "lost" "[I", Cond.fieldLink RX6 59 "ParoleCardsModel" "lostOn" "[I", Cond.fieldLink RX6 62 "ParoleCardsModel" "isLower" "[Z", Cond.fieldLink RX6 65 "ParoleCardsModel" "isAppealed" "[Z"]
def wsX6_init_r2 : List Cond := [Cond.fieldLink RX6 68 "ParoleCardsModel" "tools" "[I", Cond.fieldLink RX6 71 "ParoleCardsModel" "skill" "[I", Cond.fieldLink RX6 74 "ParoleCardsModel" "kind" "[I", Cond.fieldLink RX6 77 "ParoleCardsModel" "left" "[I", Cond.fieldLink RX6 80 "ParoleCardsModel" "wage" "[I"]
def wsX6_init : List Cond := .code yX6_init cX6_init 1 none :: ((wsX6_init_r1 ++ wsX6_init_r2) ++ wsX60)
def wsX6_thrown : List Cond := .code yX6_thrown cX6_thrown 1 (some .int) :: ([.fieldLink RX6 83 "ParoleCardsModel" "thrown" "I"] ++ wsX60)
def wsX6_fails : List Cond := .code yX6_fails cX6_fails 2 (some .boolean) :: ([.fieldLink RX6 83 "ParoleCardsModel" "thrown" "I"] ++ wsX60)
def wsX6_lies : List Cond := .code yX6_lies cX6_lies 3 (some .boolean) :: ([])
def wsX6_isPerson : List Cond := .code yX6_isPerson cX6_isPerson 2 (some .boolean) :: ([.fieldLink RX6 87 "ParoleCardsModel" "people" "I", .methodLink RX6 90 yX6_lies, .static yX6_lies, .initialized RX6, .code yX6_lies cX6_lies 3 (some .boolean)] ++ wsX60)
def wsX6_isOrder : List Cond := .code yX6_isOrder cX6_isOrder 2 (some .boolean) :: ([.fieldLink RX6 94 "ParoleCardsModel" "orders" "I", .methodLink RX6 90 yX6_lies, .static yX6_lies, .initialized RX6, .code yX6_lies cX6_lies 3 (some .boolean)] ++ wsX60)
def wsX6_admit : List Cond := .code yX6_admit cX6_admit 4 (some .int) :: ([.fieldLink RX6 87 "ParoleCardsModel" "people" "I", .fieldLink RX6 13 "ParoleCardsModel" "since" "[I", .fieldLink RX6 101 "ParoleCardsModel" "today" "I", .fieldLink RX6 17 "ParoleCardsModel" "term" "[I", .fieldLink RX6 20 "ParoleCardsModel" "skills" "[I", .fieldLink RX6 23 "ParoleCardsModel" "regime" "[I", .fieldLink RX6 38 "ParoleCardsModel" "on" "[I", .methodLink RX6 90 yX6_lies, .static yX6_lies, .initialized RX6, .code yX6_lies cX6_lies 3 (some .boolean), .methodLink RX6 97 yX6_fails, .instanceMethod yX6_fails, .selects RX6 yX6_fails yX6_fails, .code yX6_fails cX6_fails 2 (some .boolean), .fieldLink RX6 83 "ParoleCardsModel" "thrown" "I"] ++ wsX60)
def wsX6_gains : List Cond := .code yX6_gains cX6_gains 2 (some .int) :: ([.fieldLink RX6 26 "ParoleCardsModel" "worked" "[I", .fieldLink RX6 29 "ParoleCardsModel" "gained" "[I"] ++ wsX60)
def wsX6_loses : List Cond := .code yX6_loses cX6_loses 4 (some .int) :: ([.fieldLink RX6 35 "ParoleCardsModel" "offences" "[I", .fieldLink RX6 65 "ParoleCardsModel" "isAppealed" "[Z", .fieldLink RX6 56 "ParoleCardsModel" "lost" "[I"] ++ wsX60)
def wsX6_releaseOf : List Cond := .code yX6_releaseOf cX6_releaseOf 4 (some .int) :: ([.fieldLink RX6 17 "ParoleCardsModel" "term" "[I", .fieldLink RX6 7 "ParoleCardsModel" "isOut" "[Z", .fieldLink RX6 41 "ParoleCardsModel" "released" "[I", .fieldLink RX6 13 "ParoleCardsModel" "since" "[I", .methodLink RX6 104 yX6_gains, .instanceMethod yX6_gains, .selects RX6 yX6_gains yX6_gains, .initialized RX6, .code yX6_gains cX6_gains 2 (some .int), .fieldLink RX6 26 "ParoleCardsModel" "worked" "[I", .fieldLink RX6 29 "ParoleCardsModel" "gained" "[I", .methodLink RX6 108 yX6_loses, .instanceMethod yX6_loses, .selects RX6 yX6_loses yX6_loses, .code yX6_loses cX6_loses 4 (some .int), .fieldLink RX6 35 "ParoleCardsModel" "offences" "[I", .fieldLink RX6 65 "ParoleCardsModel" "isAppealed" "[Z", .fieldLink RX6 56 "ParoleCardsModel" "lost" "[I"] ++ wsX60)
def wsX6_raises : List Cond := .code yX6_raises cX6_raises 2 none :: ([.fieldLink RX6 23 "ParoleCardsModel" "regime" "[I"] ++ wsX60)
def wsX6_course_r1 : List Cond := [Cond.fieldLink RX6 7 "ParoleCardsModel" "isOut" "[Z", Cond.fieldLink RX6 32 "ParoleCardsModel" "papers" "[I", Cond.fieldLink RX6 20 "ParoleCardsModel" "skills" "[I", Cond.fieldLink RX6 29 "ParoleCardsModel" "gained" "[I", Cond.methodLink RX6 111 yX6_isPerson, Cond.instanceMethod yX6_isPerson, Cond.selects RX6 yX6_isPerson yX6_isPerson, Cond.initialized RX6, Cond.code yX6_isPerson cX6_isPerson 2 (some .boolean), Cond.fieldLink RX6 87 "ParoleCardsModel" "people" "I", Cond.methodLink RX6 90 yX6_lies, Cond.static yX6_lies, Cond.code yX6_lies cX6_lies 3 (some .boolean), Cond.methodLink RX6 97 yX6_fails, Cond.instanceMethod yX6_fails, Cond.selects RX6 yX6_fails yX6_fails, Cond.code yX6_fails cX6_fails 2 (some .boolean), Cond.fieldLink RX6 83 "ParoleCardsModel" "thrown" "I", Cond.methodLink RX6 114 yX6_raises, Cond.instanceMethod yX6_raises, Cond.selects RX6 yX6_raises yX6_raises, Cond.code yX6_raises cX6_raises 2 none, Cond.fieldLink RX6 23 "ParoleCardsModel" "regime" "[I", Cond.methodLink RX6 118 yX6_releaseOf]
def wsX6_course_r2 : List Cond := [Cond.instanceMethod yX6_releaseOf, Cond.selects RX6 yX6_releaseOf yX6_releaseOf, Cond.code yX6_releaseOf cX6_releaseOf 4 (some .int), Cond.fieldLink RX6 17 "ParoleCardsModel" "term" "[I", Cond.fieldLink RX6 41 "ParoleCardsModel" "released" "[I", Cond.fieldLink RX6 13 "ParoleCardsModel" "since" "[I", Cond.methodLink RX6 104 yX6_gains, Cond.instanceMethod yX6_gains, Cond.selects RX6 yX6_gains yX6_gains, Cond.code yX6_gains cX6_gains 2 (some .int), Cond.fieldLink RX6 26 "ParoleCardsModel" "worked" "[I", Cond.methodLink RX6 108 yX6_loses, Cond.instanceMethod yX6_loses, Cond.selects RX6 yX6_loses yX6_loses, Cond.code yX6_loses cX6_loses 4 (some .int), Cond.fieldLink RX6 35 "ParoleCardsModel" "offences" "[I", Cond.fieldLink RX6 65 "ParoleCardsModel" "isAppealed" "[Z", Cond.fieldLink RX6 56 "ParoleCardsModel" "lost" "[I"]
def wsX6_course : List Cond := .code yX6_course cX6_course 5 (some .int) :: ((wsX6_course_r1 ++ wsX6_course_r2) ++ wsX60)
def wsX6_offence : List Cond := .code yX6_offence cX6_offence 4 (some .int) :: ([.fieldLink RX6 7 "ParoleCardsModel" "isOut" "[Z", .fieldLink RX6 32 "ParoleCardsModel" "papers" "[I", .fieldLink RX6 35 "ParoleCardsModel" "offences" "[I", .fieldLink RX6 56 "ParoleCardsModel" "lost" "[I", .fieldLink RX6 59 "ParoleCardsModel" "lostOn" "[I", .fieldLink RX6 101 "ParoleCardsModel" "today" "I", .fieldLink RX6 62 "ParoleCardsModel" "isLower" "[Z", .fieldLink RX6 23 "ParoleCardsModel" "regime" "[I", .fieldLink RX6 65 "ParoleCardsModel" "isAppealed" "[Z", .fieldLink RX6 38 "ParoleCardsModel" "on" "[I", .methodLink RX6 111 yX6_isPerson, .instanceMethod yX6_isPerson, .selects RX6 yX6_isPerson yX6_isPerson, .initialized RX6, .code yX6_isPerson cX6_isPerson 2 (some .boolean), .fieldLink RX6 87 "ParoleCardsModel" "people" "I", .methodLink RX6 90 yX6_lies, .static yX6_lies, .code yX6_lies cX6_lies 3 (some .boolean), .methodLink RX6 97 yX6_fails, .instanceMethod yX6_fails, .selects RX6 yX6_fails yX6_fails, .code yX6_fails cX6_fails 2 (some .boolean), .fieldLink RX6 83 "ParoleCardsModel" "thrown" "I"] ++ wsX60)
def wsX6_appeal_r1 : List Cond := [Cond.fieldLink RX6 35 "ParoleCardsModel" "offences" "[I", Cond.fieldLink RX6 7 "ParoleCardsModel" "isOut" "[Z", Cond.fieldLink RX6 65 "ParoleCardsModel" "isAppealed" "[Z", Cond.fieldLink RX6 62 "ParoleCardsModel" "isLower" "[Z", Cond.methodLink RX6 111 yX6_isPerson, Cond.instanceMethod yX6_isPerson, Cond.selects RX6 yX6_isPerson yX6_isPerson, Cond.initialized RX6, Cond.code yX6_isPerson cX6_isPerson 2 (some .boolean), Cond.fieldLink RX6 87 "ParoleCardsModel" "people" "I", Cond.methodLink RX6 90 yX6_lies, Cond.static yX6_lies, Cond.code yX6_lies cX6_lies 3 (some .boolean), Cond.methodLink RX6 97 yX6_fails, Cond.instanceMethod yX6_fails, Cond.selects RX6 yX6_fails yX6_fails, Cond.code yX6_fails cX6_fails 2 (some .boolean), Cond.fieldLink RX6 83 "ParoleCardsModel" "thrown" "I", Cond.methodLink RX6 114 yX6_raises, Cond.instanceMethod yX6_raises, Cond.selects RX6 yX6_raises yX6_raises, Cond.code yX6_raises cX6_raises 2 none, Cond.fieldLink RX6 23 "ParoleCardsModel" "regime" "[I", Cond.methodLink RX6 118 yX6_releaseOf]
def wsX6_appeal_r2 : List Cond := [Cond.instanceMethod yX6_releaseOf, Cond.selects RX6 yX6_releaseOf yX6_releaseOf, Cond.code yX6_releaseOf cX6_releaseOf 4 (some .int), Cond.fieldLink RX6 17 "ParoleCardsModel" "term" "[I", Cond.fieldLink RX6 41 "ParoleCardsModel" "released" "[I", Cond.fieldLink RX6 13 "ParoleCardsModel" "since" "[I", Cond.methodLink RX6 104 yX6_gains, Cond.instanceMethod yX6_gains, Cond.selects RX6 yX6_gains yX6_gains, Cond.code yX6_gains cX6_gains 2 (some .int), Cond.fieldLink RX6 26 "ParoleCardsModel" "worked" "[I", Cond.fieldLink RX6 29 "ParoleCardsModel" "gained" "[I", Cond.methodLink RX6 108 yX6_loses, Cond.instanceMethod yX6_loses, Cond.selects RX6 yX6_loses yX6_loses, Cond.code yX6_loses cX6_loses 4 (some .int), Cond.fieldLink RX6 56 "ParoleCardsModel" "lost" "[I"]
def wsX6_appeal : List Cond := .code yX6_appeal cX6_appeal 5 (some .int) :: ((wsX6_appeal_r1 ++ wsX6_appeal_r2) ++ wsX60)
def wsX6_release_r1 : List Cond := [Cond.methodLink RX6 111 yX6_isPerson, Cond.instanceMethod yX6_isPerson, Cond.selects RX6 yX6_isPerson yX6_isPerson, Cond.initialized RX6, Cond.code yX6_isPerson cX6_isPerson 2 (some .boolean), Cond.fieldLink RX6 87 "ParoleCardsModel" "people" "I", Cond.methodLink RX6 90 yX6_lies, Cond.static yX6_lies, Cond.code yX6_lies cX6_lies 3 (some .boolean), Cond.methodLink RX6 97 yX6_fails, Cond.instanceMethod yX6_fails, Cond.selects RX6 yX6_fails yX6_fails, Cond.code yX6_fails cX6_fails 2 (some .boolean), Cond.fieldLink RX6 83 "ParoleCardsModel" "thrown" "I", Cond.methodLink RX6 118 yX6_releaseOf, Cond.instanceMethod yX6_releaseOf, Cond.selects RX6 yX6_releaseOf yX6_releaseOf, Cond.code yX6_releaseOf cX6_releaseOf 4 (some .int), Cond.fieldLink RX6 17 "ParoleCardsModel" "term" "[I", Cond.fieldLink RX6 7 "ParoleCardsModel" "isOut" "[Z", Cond.fieldLink RX6 41 "ParoleCardsModel" "released" "[I", Cond.fieldLink RX6 13 "ParoleCardsModel" "since" "[I", Cond.methodLink RX6 104 yX6_gains, Cond.instanceMethod yX6_gains]
def wsX6_release_r2 : List Cond := [Cond.selects RX6 yX6_gains yX6_gains, Cond.code yX6_gains cX6_gains 2 (some .int), Cond.fieldLink RX6 26 "ParoleCardsModel" "worked" "[I", Cond.fieldLink RX6 29 "ParoleCardsModel" "gained" "[I", Cond.methodLink RX6 108 yX6_loses, Cond.instanceMethod yX6_loses, Cond.selects RX6 yX6_loses yX6_loses, Cond.code yX6_loses cX6_loses 4 (some .int), Cond.fieldLink RX6 35 "ParoleCardsModel" "offences" "[I", Cond.fieldLink RX6 65 "ParoleCardsModel" "isAppealed" "[Z", Cond.fieldLink RX6 56 "ParoleCardsModel" "lost" "[I"]
def wsX6_release : List Cond := .code yX6_release cX6_release 2 (some .int) :: ((wsX6_release_r1 ++ wsX6_release_r2) ++ wsX60)
def wsX6_isIn : List Cond := .code yX6_isIn cX6_isIn 2 (some .boolean) :: ([.fieldLink RX6 7 "ParoleCardsModel" "isOut" "[Z", .methodLink RX6 111 yX6_isPerson, .instanceMethod yX6_isPerson, .selects RX6 yX6_isPerson yX6_isPerson, .initialized RX6, .code yX6_isPerson cX6_isPerson 2 (some .boolean), .fieldLink RX6 87 "ParoleCardsModel" "people" "I", .methodLink RX6 90 yX6_lies, .static yX6_lies, .code yX6_lies cX6_lies 3 (some .boolean), .methodLink RX6 97 yX6_fails, .instanceMethod yX6_fails, .selects RX6 yX6_fails yX6_fails, .code yX6_fails cX6_fails 2 (some .boolean), .fieldLink RX6 83 "ParoleCardsModel" "thrown" "I"] ++ wsX60)
def wsX6_of : List Cond := .code yX6_of cX6_of 3 (some .int) :: ([.methodLink RX6 111 yX6_isPerson, .instanceMethod yX6_isPerson, .selects RX6 yX6_isPerson yX6_isPerson, .initialized RX6, .code yX6_isPerson cX6_isPerson 2 (some .boolean), .fieldLink RX6 87 "ParoleCardsModel" "people" "I", .methodLink RX6 90 yX6_lies, .static yX6_lies, .code yX6_lies cX6_lies 3 (some .boolean), .methodLink RX6 97 yX6_fails, .instanceMethod yX6_fails, .selects RX6 yX6_fails yX6_fails, .code yX6_fails cX6_fails 2 (some .boolean), .fieldLink RX6 83 "ParoleCardsModel" "thrown" "I"] ++ wsX60)
def wsX6_regime : List Cond := .code yX6_regime cX6_regime 2 (some .int) :: ([.fieldLink RX6 23 "ParoleCardsModel" "regime" "[I", .methodLink RX6 121 yX6_of, .instanceMethod yX6_of, .selects RX6 yX6_of yX6_of, .initialized RX6, .code yX6_of cX6_of 3 (some .int), .methodLink RX6 111 yX6_isPerson, .instanceMethod yX6_isPerson, .selects RX6 yX6_isPerson yX6_isPerson, .code yX6_isPerson cX6_isPerson 2 (some .boolean), .fieldLink RX6 87 "ParoleCardsModel" "people" "I", .methodLink RX6 90 yX6_lies, .static yX6_lies, .code yX6_lies cX6_lies 3 (some .boolean), .methodLink RX6 97 yX6_fails, .instanceMethod yX6_fails, .selects RX6 yX6_fails yX6_fails, .code yX6_fails cX6_fails 2 (some .boolean), .fieldLink RX6 83 "ParoleCardsModel" "thrown" "I"] ++ wsX60)
def wsX6_papers_r1 : List Cond := [Cond.methodLink RX6 111 yX6_isPerson, Cond.instanceMethod yX6_isPerson, Cond.selects RX6 yX6_isPerson yX6_isPerson, Cond.initialized RX6, Cond.code yX6_isPerson cX6_isPerson 2 (some .boolean), Cond.fieldLink RX6 87 "ParoleCardsModel" "people" "I", Cond.methodLink RX6 90 yX6_lies, Cond.static yX6_lies, Cond.code yX6_lies cX6_lies 3 (some .boolean), Cond.methodLink RX6 97 yX6_fails, Cond.instanceMethod yX6_fails, Cond.selects RX6 yX6_fails yX6_fails, Cond.code yX6_fails cX6_fails 2 (some .boolean), Cond.fieldLink RX6 83 "ParoleCardsModel" "thrown" "I", Cond.methodLink RX6 108 yX6_loses, Cond.instanceMethod yX6_loses, Cond.selects RX6 yX6_loses yX6_loses, Cond.code yX6_loses cX6_loses 4 (some .int), Cond.fieldLink RX6 35 "ParoleCardsModel" "offences" "[I", Cond.fieldLink RX6 65 "ParoleCardsModel" "isAppealed" "[Z", Cond.fieldLink RX6 56 "ParoleCardsModel" "lost" "[I", Cond.methodLink RX6 104 yX6_gains, Cond.instanceMethod yX6_gains, Cond.selects RX6 yX6_gains yX6_gains]
def wsX6_papers_r2 : List Cond := [Cond.code yX6_gains cX6_gains 2 (some .int), Cond.fieldLink RX6 26 "ParoleCardsModel" "worked" "[I", Cond.fieldLink RX6 29 "ParoleCardsModel" "gained" "[I"]
def wsX6_papers : List Cond := .code yX6_papers cX6_papers 3 (some .int) :: ((wsX6_papers_r1 ++ wsX6_papers_r2) ++ wsX60)
def wsX6_isKind : List Cond := .code yX6_isKind cX6_isKind 1 (some .boolean) :: ([.methodLink RX6 90 yX6_lies, .static yX6_lies, .initialized RX6, .code yX6_lies cX6_lies 3 (some .boolean)])
def wsX6_out : List Cond := .code yX6_out cX6_out 4 (some .int) :: ([.fieldLink RX6 87 "ParoleCardsModel" "people" "I", .fieldLink RX6 38 "ParoleCardsModel" "on" "[I", .fieldLink RX6 74 "ParoleCardsModel" "kind" "[I"] ++ wsX60)
def wsX6_setTools : List Cond := .code yX6_setTools cX6_setTools 4 (some .int) :: ([.fieldLink RX6 68 "ParoleCardsModel" "tools" "[I", .methodLink RX6 125 yX6_isKind, .static yX6_isKind, .initialized RX6, .code yX6_isKind cX6_isKind 1 (some .boolean), .methodLink RX6 90 yX6_lies, .static yX6_lies, .code yX6_lies cX6_lies 3 (some .boolean), .methodLink RX6 128 yX6_out, .instanceMethod yX6_out, .selects RX6 yX6_out yX6_out, .code yX6_out cX6_out 4 (some .int), .fieldLink RX6 87 "ParoleCardsModel" "people" "I", .fieldLink RX6 38 "ParoleCardsModel" "on" "[I", .fieldLink RX6 74 "ParoleCardsModel" "kind" "[I", .methodLink RX6 97 yX6_fails, .instanceMethod yX6_fails, .selects RX6 yX6_fails yX6_fails, .code yX6_fails cX6_fails 2 (some .boolean), .fieldLink RX6 83 "ParoleCardsModel" "thrown" "I"] ++ wsX60)
def wsX6_toolsOut : List Cond := .code yX6_toolsOut cX6_toolsOut 2 (some .int) :: ([.methodLink RX6 125 yX6_isKind, .static yX6_isKind, .initialized RX6, .code yX6_isKind cX6_isKind 1 (some .boolean), .methodLink RX6 90 yX6_lies, .static yX6_lies, .code yX6_lies cX6_lies 3 (some .boolean), .methodLink RX6 97 yX6_fails, .instanceMethod yX6_fails, .selects RX6 yX6_fails yX6_fails, .code yX6_fails cX6_fails 2 (some .boolean), .fieldLink RX6 83 "ParoleCardsModel" "thrown" "I", .methodLink RX6 128 yX6_out, .instanceMethod yX6_out, .selects RX6 yX6_out yX6_out, .code yX6_out cX6_out 4 (some .int), .fieldLink RX6 87 "ParoleCardsModel" "people" "I", .fieldLink RX6 38 "ParoleCardsModel" "on" "[I", .fieldLink RX6 74 "ParoleCardsModel" "kind" "[I"] ++ wsX60)
def wsX6_addOrder : List Cond := .code yX6_addOrder cX6_addOrder 7 (some .int) :: ([.fieldLink RX6 94 "ParoleCardsModel" "orders" "I", .fieldLink RX6 71 "ParoleCardsModel" "skill" "[I", .fieldLink RX6 74 "ParoleCardsModel" "kind" "[I", .fieldLink RX6 77 "ParoleCardsModel" "left" "[I", .fieldLink RX6 80 "ParoleCardsModel" "wage" "[I", .methodLink RX6 90 yX6_lies, .static yX6_lies, .initialized RX6, .code yX6_lies cX6_lies 3 (some .boolean), .methodLink RX6 125 yX6_isKind, .static yX6_isKind, .code yX6_isKind cX6_isKind 1 (some .boolean), .methodLink RX6 97 yX6_fails, .instanceMethod yX6_fails, .selects RX6 yX6_fails yX6_fails, .code yX6_fails cX6_fails 2 (some .boolean), .fieldLink RX6 83 "ParoleCardsModel" "thrown" "I"] ++ wsX60)
def wsX6_assign_r1 : List Cond := [Cond.fieldLink RX6 7 "ParoleCardsModel" "isOut" "[Z", Cond.fieldLink RX6 38 "ParoleCardsModel" "on" "[I", Cond.fieldLink RX6 20 "ParoleCardsModel" "skills" "[I", Cond.fieldLink RX6 71 "ParoleCardsModel" "skill" "[I", Cond.fieldLink RX6 77 "ParoleCardsModel" "left" "[I", Cond.fieldLink RX6 74 "ParoleCardsModel" "kind" "[I", Cond.fieldLink RX6 68 "ParoleCardsModel" "tools" "[I", Cond.fieldLink RX6 87 "ParoleCardsModel" "people" "I", Cond.methodLink RX6 111 yX6_isPerson, Cond.instanceMethod yX6_isPerson, Cond.selects RX6 yX6_isPerson yX6_isPerson, Cond.initialized RX6, Cond.code yX6_isPerson cX6_isPerson 2 (some .boolean), Cond.methodLink RX6 90 yX6_lies, Cond.static yX6_lies, Cond.code yX6_lies cX6_lies 3 (some .boolean), Cond.methodLink RX6 131 yX6_isOrder, Cond.instanceMethod yX6_isOrder, Cond.selects RX6 yX6_isOrder yX6_isOrder, Cond.code yX6_isOrder cX6_isOrder 2 (some .boolean), Cond.fieldLink RX6 94 "ParoleCardsModel" "orders" "I", Cond.methodLink RX6 128 yX6_out, Cond.instanceMethod yX6_out, Cond.selects RX6 yX6_out yX6_out]
def wsX6_assign_r2 : List Cond := [Cond.code yX6_out cX6_out 4 (some .int), Cond.methodLink RX6 97 yX6_fails, Cond.instanceMethod yX6_fails, Cond.selects RX6 yX6_fails yX6_fails, Cond.code yX6_fails cX6_fails 2 (some .boolean), Cond.fieldLink RX6 83 "ParoleCardsModel" "thrown" "I"]
def wsX6_assign : List Cond := .code yX6_assign cX6_assign 7 (some .int) :: ((wsX6_assign_r1 ++ wsX6_assign_r2) ++ wsX60)
def wsX6_takeOff : List Cond := .code yX6_takeOff cX6_takeOff 4 (some .int) :: ([.fieldLink RX6 38 "ParoleCardsModel" "on" "[I", .methodLink RX6 111 yX6_isPerson, .instanceMethod yX6_isPerson, .selects RX6 yX6_isPerson yX6_isPerson, .initialized RX6, .code yX6_isPerson cX6_isPerson 2 (some .boolean), .fieldLink RX6 87 "ParoleCardsModel" "people" "I", .methodLink RX6 90 yX6_lies, .static yX6_lies, .code yX6_lies cX6_lies 3 (some .boolean), .methodLink RX6 97 yX6_fails, .instanceMethod yX6_fails, .selects RX6 yX6_fails yX6_fails, .code yX6_fails cX6_fails 2 (some .boolean), .fieldLink RX6 83 "ParoleCardsModel" "thrown" "I"] ++ wsX60)
def wsX6_orderOf : List Cond := .code yX6_orderOf cX6_orderOf 2 (some .int) :: ([.fieldLink RX6 38 "ParoleCardsModel" "on" "[I", .methodLink RX6 121 yX6_of, .instanceMethod yX6_of, .selects RX6 yX6_of yX6_of, .initialized RX6, .code yX6_of cX6_of 3 (some .int), .methodLink RX6 111 yX6_isPerson, .instanceMethod yX6_isPerson, .selects RX6 yX6_isPerson yX6_isPerson, .code yX6_isPerson cX6_isPerson 2 (some .boolean), .fieldLink RX6 87 "ParoleCardsModel" "people" "I", .methodLink RX6 90 yX6_lies, .static yX6_lies, .code yX6_lies cX6_lies 3 (some .boolean), .methodLink RX6 97 yX6_fails, .instanceMethod yX6_fails, .selects RX6 yX6_fails yX6_fails, .code yX6_fails cX6_fails 2 (some .boolean), .fieldLink RX6 83 "ParoleCardsModel" "thrown" "I"] ++ wsX60)
def wsX6_left : List Cond := .code yX6_left cX6_left 2 (some .int) :: ([.fieldLink RX6 77 "ParoleCardsModel" "left" "[I", .methodLink RX6 131 yX6_isOrder, .instanceMethod yX6_isOrder, .selects RX6 yX6_isOrder yX6_isOrder, .initialized RX6, .code yX6_isOrder cX6_isOrder 2 (some .boolean), .fieldLink RX6 94 "ParoleCardsModel" "orders" "I", .methodLink RX6 90 yX6_lies, .static yX6_lies, .code yX6_lies cX6_lies 3 (some .boolean), .methodLink RX6 97 yX6_fails, .instanceMethod yX6_fails, .selects RX6 yX6_fails yX6_fails, .code yX6_fails cX6_fails 2 (some .boolean), .fieldLink RX6 83 "ParoleCardsModel" "thrown" "I"] ++ wsX60)
def wsX6_account : List Cond := .code yX6_account cX6_account 4 (some .int) :: ([.fieldLink RX6 47 "ParoleCardsModel" "account" "[I", .methodLink RX6 111 yX6_isPerson, .instanceMethod yX6_isPerson, .selects RX6 yX6_isPerson yX6_isPerson, .initialized RX6, .code yX6_isPerson cX6_isPerson 2 (some .boolean), .fieldLink RX6 87 "ParoleCardsModel" "people" "I", .methodLink RX6 90 yX6_lies, .static yX6_lies, .code yX6_lies cX6_lies 3 (some .boolean), .methodLink RX6 97 yX6_fails, .instanceMethod yX6_fails, .selects RX6 yX6_fails yX6_fails, .code yX6_fails cX6_fails 2 (some .boolean), .fieldLink RX6 83 "ParoleCardsModel" "thrown" "I"] ++ wsX60)
def wsX6_rest : List Cond := .code yX6_rest cX6_rest 4 (some .int) :: ([.fieldLink RX6 23 "ParoleCardsModel" "regime" "[I", .fieldLink RX6 35 "ParoleCardsModel" "offences" "[I", .fieldLink RX6 65 "ParoleCardsModel" "isAppealed" "[Z", .fieldLink RX6 101 "ParoleCardsModel" "today" "I", .fieldLink RX6 59 "ParoleCardsModel" "lostOn" "[I", .fieldLink RX6 50 "ParoleCardsModel" "span" "[I", .fieldLink RX6 53 "ParoleCardsModel" "bought" "[I", .fieldLink RX6 7 "ParoleCardsModel" "isOut" "[Z"] ++ wsX60)
def wsX6_buy_r1 : List Cond := [Cond.fieldLink RX6 7 "ParoleCardsModel" "isOut" "[Z", Cond.fieldLink RX6 47 "ParoleCardsModel" "account" "[I", Cond.fieldLink RX6 53 "ParoleCardsModel" "bought" "[I", Cond.fieldLink RX6 50 "ParoleCardsModel" "span" "[I", Cond.fieldLink RX6 101 "ParoleCardsModel" "today" "I", Cond.methodLink RX6 111 yX6_isPerson, Cond.instanceMethod yX6_isPerson, Cond.selects RX6 yX6_isPerson yX6_isPerson, Cond.initialized RX6, Cond.code yX6_isPerson cX6_isPerson 2 (some .boolean), Cond.fieldLink RX6 87 "ParoleCardsModel" "people" "I", Cond.methodLink RX6 90 yX6_lies, Cond.static yX6_lies, Cond.code yX6_lies cX6_lies 3 (some .boolean), Cond.methodLink RX6 134 yX6_rest, Cond.instanceMethod yX6_rest, Cond.selects RX6 yX6_rest yX6_rest, Cond.code yX6_rest cX6_rest 4 (some .int), Cond.fieldLink RX6 23 "ParoleCardsModel" "regime" "[I", Cond.fieldLink RX6 35 "ParoleCardsModel" "offences" "[I", Cond.fieldLink RX6 65 "ParoleCardsModel" "isAppealed" "[Z", Cond.fieldLink RX6 59 "ParoleCardsModel" "lostOn" "[I", Cond.methodLink RX6 97 yX6_fails, Cond.instanceMethod yX6_fails]
def wsX6_buy_r2 : List Cond := [Cond.selects RX6 yX6_fails yX6_fails, Cond.code yX6_fails cX6_fails 2 (some .boolean), Cond.fieldLink RX6 83 "ParoleCardsModel" "thrown" "I"]
def wsX6_buy : List Cond := .code yX6_buy cX6_buy 6 (some .int) :: ((wsX6_buy_r1 ++ wsX6_buy_r2) ++ wsX60)
def wsX6_limit_r1 : List Cond := [Cond.methodLink RX6 111 yX6_isPerson, Cond.instanceMethod yX6_isPerson, Cond.selects RX6 yX6_isPerson yX6_isPerson, Cond.initialized RX6, Cond.code yX6_isPerson cX6_isPerson 2 (some .boolean), Cond.fieldLink RX6 87 "ParoleCardsModel" "people" "I", Cond.methodLink RX6 90 yX6_lies, Cond.static yX6_lies, Cond.code yX6_lies cX6_lies 3 (some .boolean), Cond.methodLink RX6 97 yX6_fails, Cond.instanceMethod yX6_fails, Cond.selects RX6 yX6_fails yX6_fails, Cond.code yX6_fails cX6_fails 2 (some .boolean), Cond.fieldLink RX6 83 "ParoleCardsModel" "thrown" "I", Cond.methodLink RX6 134 yX6_rest, Cond.instanceMethod yX6_rest, Cond.selects RX6 yX6_rest yX6_rest, Cond.code yX6_rest cX6_rest 4 (some .int), Cond.fieldLink RX6 23 "ParoleCardsModel" "regime" "[I", Cond.fieldLink RX6 35 "ParoleCardsModel" "offences" "[I", Cond.fieldLink RX6 65 "ParoleCardsModel" "isAppealed" "[Z", Cond.fieldLink RX6 101 "ParoleCardsModel" "today" "I", Cond.fieldLink RX6 59 "ParoleCardsModel" "lostOn" "[I", Cond.fieldLink RX6 50 "ParoleCardsModel" "span" "[I"]
def wsX6_limit_r2 : List Cond := [Cond.fieldLink RX6 53 "ParoleCardsModel" "bought" "[I", Cond.fieldLink RX6 7 "ParoleCardsModel" "isOut" "[Z"]
def wsX6_limit : List Cond := .code yX6_limit cX6_limit 2 (some .int) :: ((wsX6_limit_r1 ++ wsX6_limit_r2) ++ wsX60)
def wsX6_paidOut : List Cond := .code yX6_paidOut cX6_paidOut 2 (some .int) :: ([.fieldLink RX6 44 "ParoleCardsModel" "paid" "[I", .methodLink RX6 121 yX6_of, .instanceMethod yX6_of, .selects RX6 yX6_of yX6_of, .initialized RX6, .code yX6_of cX6_of 3 (some .int), .methodLink RX6 111 yX6_isPerson, .instanceMethod yX6_isPerson, .selects RX6 yX6_isPerson yX6_isPerson, .code yX6_isPerson cX6_isPerson 2 (some .boolean), .fieldLink RX6 87 "ParoleCardsModel" "people" "I", .methodLink RX6 90 yX6_lies, .static yX6_lies, .code yX6_lies cX6_lies 3 (some .boolean), .methodLink RX6 97 yX6_fails, .instanceMethod yX6_fails, .selects RX6 yX6_fails yX6_fails, .code yX6_fails cX6_fails 2 (some .boolean), .fieldLink RX6 83 "ParoleCardsModel" "thrown" "I"] ++ wsX60)
def wsX6_works : List Cond := .code yX6_works cX6_works 5 none :: ([.fieldLink RX6 38 "ParoleCardsModel" "on" "[I", .fieldLink RX6 77 "ParoleCardsModel" "left" "[I", .fieldLink RX6 26 "ParoleCardsModel" "worked" "[I", .fieldLink RX6 80 "ParoleCardsModel" "wage" "[I", .fieldLink RX6 47 "ParoleCardsModel" "account" "[I"] ++ wsX60)
def wsX6_goes_r1 : List Cond := [Cond.fieldLink RX6 7 "ParoleCardsModel" "isOut" "[Z", Cond.fieldLink RX6 101 "ParoleCardsModel" "today" "I", Cond.fieldLink RX6 41 "ParoleCardsModel" "released" "[I", Cond.fieldLink RX6 38 "ParoleCardsModel" "on" "[I", Cond.fieldLink RX6 44 "ParoleCardsModel" "paid" "[I", Cond.fieldLink RX6 47 "ParoleCardsModel" "account" "[I", Cond.methodLink RX6 118 yX6_releaseOf, Cond.instanceMethod yX6_releaseOf, Cond.selects RX6 yX6_releaseOf yX6_releaseOf, Cond.initialized RX6, Cond.code yX6_releaseOf cX6_releaseOf 4 (some .int), Cond.fieldLink RX6 17 "ParoleCardsModel" "term" "[I", Cond.fieldLink RX6 13 "ParoleCardsModel" "since" "[I", Cond.methodLink RX6 104 yX6_gains, Cond.instanceMethod yX6_gains, Cond.selects RX6 yX6_gains yX6_gains, Cond.code yX6_gains cX6_gains 2 (some .int), Cond.fieldLink RX6 26 "ParoleCardsModel" "worked" "[I", Cond.fieldLink RX6 29 "ParoleCardsModel" "gained" "[I", Cond.methodLink RX6 108 yX6_loses, Cond.instanceMethod yX6_loses, Cond.selects RX6 yX6_loses yX6_loses, Cond.code yX6_loses cX6_loses 4 (some .int), Cond.fieldLink RX6 35 "ParoleCardsModel" "offences" "[I"]
def wsX6_goes_r2 : List Cond := [Cond.fieldLink RX6 65 "ParoleCardsModel" "isAppealed" "[Z", Cond.fieldLink RX6 56 "ParoleCardsModel" "lost" "[I"]
def wsX6_goes : List Cond := .code yX6_goes cX6_goes 2 (some .int) :: ((wsX6_goes_r1 ++ wsX6_goes_r2) ++ wsX60)
def wsX6_pass_r1 : List Cond := [Cond.fieldLink RX6 87 "ParoleCardsModel" "people" "I", Cond.fieldLink RX6 38 "ParoleCardsModel" "on" "[I", Cond.fieldLink RX6 77 "ParoleCardsModel" "left" "[I", Cond.fieldLink RX6 101 "ParoleCardsModel" "today" "I", Cond.methodLink RX6 90 yX6_lies, Cond.static yX6_lies, Cond.initialized RX6, Cond.code yX6_lies cX6_lies 3 (some .boolean), Cond.methodLink RX6 97 yX6_fails, Cond.instanceMethod yX6_fails, Cond.selects RX6 yX6_fails yX6_fails, Cond.code yX6_fails cX6_fails 2 (some .boolean), Cond.fieldLink RX6 83 "ParoleCardsModel" "thrown" "I", Cond.methodLink RX6 137 yX6_works, Cond.instanceMethod yX6_works, Cond.selects RX6 yX6_works yX6_works, Cond.code yX6_works cX6_works 5 none, Cond.fieldLink RX6 26 "ParoleCardsModel" "worked" "[I", Cond.fieldLink RX6 80 "ParoleCardsModel" "wage" "[I", Cond.fieldLink RX6 47 "ParoleCardsModel" "account" "[I", Cond.methodLink RX6 140 yX6_goes, Cond.instanceMethod yX6_goes, Cond.selects RX6 yX6_goes yX6_goes, Cond.code yX6_goes cX6_goes 2 (some .int)]
def wsX6_pass_r2 : List Cond := [Cond.fieldLink RX6 7 "ParoleCardsModel" "isOut" "[Z", Cond.fieldLink RX6 41 "ParoleCardsModel" "released" "[I", Cond.fieldLink RX6 44 "ParoleCardsModel" "paid" "[I", Cond.methodLink RX6 118 yX6_releaseOf, Cond.instanceMethod yX6_releaseOf, Cond.selects RX6 yX6_releaseOf yX6_releaseOf, Cond.code yX6_releaseOf cX6_releaseOf 4 (some .int), Cond.fieldLink RX6 17 "ParoleCardsModel" "term" "[I", Cond.fieldLink RX6 13 "ParoleCardsModel" "since" "[I", Cond.methodLink RX6 104 yX6_gains, Cond.instanceMethod yX6_gains, Cond.selects RX6 yX6_gains yX6_gains, Cond.code yX6_gains cX6_gains 2 (some .int), Cond.fieldLink RX6 29 "ParoleCardsModel" "gained" "[I", Cond.methodLink RX6 108 yX6_loses, Cond.instanceMethod yX6_loses, Cond.selects RX6 yX6_loses yX6_loses, Cond.code yX6_loses cX6_loses 4 (some .int), Cond.fieldLink RX6 35 "ParoleCardsModel" "offences" "[I", Cond.fieldLink RX6 65 "ParoleCardsModel" "isAppealed" "[Z", Cond.fieldLink RX6 56 "ParoleCardsModel" "lost" "[I"]
def wsX6_pass : List Cond := .code yX6_pass cX6_pass 5 (some .int) :: ((wsX6_pass_r1 ++ wsX6_pass_r2) ++ wsX60)
def wsJ9_max_7cf53 : List Cond := .code yJ9_max_7cf53 cJ9_max_7cf53 2 (some .int) :: ([])
def wsJ9_min_7cf53 : List Cond := .code yJ9_min_7cf53 cJ9_min_7cf53 2 (some .int) :: ([])
def wsL_admit_r1 : List Cond := [Cond.classLink RL 13 "java/lang/IllegalArgumentException", Cond.classLink RL 15 "java/lang/IllegalStateException", Cond.methodLink RL 7 yX5_admit, Cond.instanceMethod yX5_admit, Cond.selects RX5 yX5_admit yX5_admit, Cond.initialized RX5, Cond.code yX5_admit cX5_admit 4 (some .int), Cond.classLink RX5 36 "java/lang/IllegalStateException", Cond.initialized "java/lang/IllegalStateException", Cond.fieldLink RX5 32 "ParoleCards" "personCount" "I", Cond.fieldLink RX5 11 "ParoleCards" "people" "[LParoleCards$Person;", Cond.classLink RX5 9 RX2, Cond.instantiable RX2 14, Cond.initialized RX2, Cond.fieldLink RX5 43 "ParoleCards" "today" "I", Cond.methodLink RX5 28 yX5_checkRange, Cond.static yX5_checkRange, Cond.code yX5_checkRange cX5_checkRange 3 none, Cond.classLink RX5 227 "java/lang/IllegalArgumentException", Cond.initialized "java/lang/IllegalArgumentException", Cond.methodLink RX5 46 yX2_init, Cond.instanceMethod yX2_init, Cond.code yX2_init cX2_init 4 none, Cond.methodLink RX2 3 objectInit]
def wsL_admit_r2 : List Cond := [Cond.instanceMethod objectInit, Cond.code objectInit ⟨#[0xb1]⟩ 1 none, Cond.fieldLink RX2 9 "ParoleCards$Person" "regimeNow" "I", Cond.classLink RX2 15 RX0, Cond.fieldLink RX2 17 "ParoleCards$Person" "offences" "[LParoleCards$Offence;", Cond.classLink RX2 21 RX3, Cond.instantiable RX3 4, Cond.initialized RX3, Cond.fieldLink RX2 24 "ParoleCards$Person" "purse" "LParoleCards$Purse;", Cond.fieldLink RX2 28 "ParoleCards$Person" "admittedOn" "I", Cond.fieldLink RX2 31 "ParoleCards$Person" "term" "I", Cond.fieldLink RX2 34 "ParoleCards$Person" "skills" "I", Cond.instanceMethod yX3_init, Cond.code yX3_init cX3_init 1 none, Cond.methodLink RX3 3 objectInit, Cond.arrayClass .int, Cond.fieldLink RX3 9 "ParoleCards$Purse" "accounts" "[I"]
def wsL_admit : List Cond := .codeWith yL_admit cL_admit 5 (some .int) [(0, 10, 13, 13), (0, 10, 17, 15)] :: ((wsL_admit_r1 ++ wsL_admit_r2) ++ wsX50 ++ wsX20 ++ wsX30 ++ (vx_atS RX5 40 "java/lang/IllegalStateException" ["java/lang/RuntimeException", "java/lang/Exception"]).filter goodWord ++ (vx_atS RX5 231 "java/lang/IllegalArgumentException" ["java/lang/RuntimeException", "java/lang/Exception"]).filter goodWord)
def wsL_course_r1 : List Cond := [Cond.classLink RL 21 "java/lang/IndexOutOfBoundsException", Cond.classLink RL 13 "java/lang/IllegalArgumentException", Cond.classLink RL 15 "java/lang/IllegalStateException", Cond.methodLink RL 17 yX5_course, Cond.instanceMethod yX5_course, Cond.selects RX5 yX5_course yX5_course, Cond.initialized RX5, Cond.code yX5_course cX5_course 5 (some .int), Cond.methodLink RX5 48 yX5_findPerson, Cond.instanceMethod yX5_findPerson, Cond.selects RX5 yX5_findPerson yX5_findPerson, Cond.code yX5_findPerson cX5_findPerson 3 (some (.object "ParoleCards$Person")), Cond.classLink RX5 176 "java/lang/IndexOutOfBoundsException", Cond.initialized "java/lang/IndexOutOfBoundsException", Cond.fieldLink RX5 11 "ParoleCards" "people" "[LParoleCards$Person;", Cond.methodLink RX5 52 yX5_checkSkill, Cond.static yX5_checkSkill, Cond.code yX5_checkSkill cX5_checkSkill 1 none, Cond.methodLink RX5 28 yX5_checkRange, Cond.static yX5_checkRange, Cond.code yX5_checkRange cX5_checkRange 3 none, Cond.classLink RX5 227 "java/lang/IllegalArgumentException", Cond.initialized "java/lang/IllegalArgumentException", Cond.methodLink RX5 56 yX5_checkIn]
def wsL_course_r2 : List Cond := [Cond.static yX5_checkIn, Cond.code yX5_checkIn cX5_checkIn 1 none, Cond.classLink RX5 36 "java/lang/IllegalStateException", Cond.initialized "java/lang/IllegalStateException", Cond.fieldLink RX5 88 "ParoleCards$Person" "released" "Z", Cond.methodLink RX5 60 yX2_enterCourse, Cond.instanceMethod yX2_enterCourse, Cond.selects RX2 yX2_enterCourse yX2_enterCourse, Cond.initialized RX2, Cond.code yX2_enterCourse cX2_enterCourse 3 none, Cond.classLink RX2 73 "java/lang/IllegalStateException", Cond.fieldLink RX2 34 "ParoleCards$Person" "skills" "I", Cond.fieldLink RX2 63 "ParoleCards$Person" "courseCount" "I", Cond.fieldLink RX2 40 "ParoleCards$Person" "courseDays" "I", Cond.methodLink RX2 69 yX2_hasRoomForPaper, Cond.instanceMethod yX2_hasRoomForPaper, Cond.selects RX2 yX2_hasRoomForPaper yX2_hasRoomForPaper, Cond.code yX2_hasRoomForPaper cX2_hasRoomForPaper 1 (some .boolean), Cond.fieldLink RX2 66 "ParoleCards$Person" "offenceCount" "I", Cond.methodLink RX2 80 yX2_raiseRegime, Cond.instanceMethod yX2_raiseRegime, Cond.selects RX2 yX2_raiseRegime yX2_raiseRegime, Cond.code yX2_raiseRegime cX2_raiseRegime 1 none, Cond.fieldLink RX2 9 "ParoleCards$Person" "regimeNow" "I"]
def wsL_course_r3 : List Cond := [Cond.methodLink RX2 54 Lib.Math.min.name, Cond.static Lib.Math.min.name, Cond.initialized "java/lang/Math", Cond.code Lib.Math.min.name Lib.Math.min.code 2 (some .int), Cond.methodLink RX5 64 yX2_releaseDay, Cond.instanceMethod yX2_releaseDay, Cond.selects RX2 yX2_releaseDay yX2_releaseDay, Cond.code yX2_releaseDay cX2_releaseDay 1 (some .int), Cond.fieldLink RX2 43 "ParoleCards$Person" "released" "Z", Cond.fieldLink RX2 47 "ParoleCards$Person" "releasedOn" "I", Cond.fieldLink RX2 28 "ParoleCards$Person" "admittedOn" "I", Cond.fieldLink RX2 31 "ParoleCards$Person" "term" "I", Cond.fieldLink RX2 60 "ParoleCards$Person" "lostDays" "I", Cond.methodLink RX2 50 yX2_gainedDays, Cond.instanceMethod yX2_gainedDays, Cond.selects RX2 yX2_gainedDays yX2_gainedDays, Cond.code yX2_gainedDays cX2_gainedDays 1 (some .int), Cond.fieldLink RX2 37 "ParoleCards$Person" "workedDays" "I"]
def wsL_course : List Cond := .codeWith yL_course cL_course 6 (some .int) [(0, 12, 15, 21), (0, 12, 19, 13), (0, 12, 23, 15)] :: ((wsL_course_r1 ++ (wsL_course_r2 ++ wsL_course_r3)) ++ wsX50 ++ wsX20 ++ (vx_atS RX5 180 "java/lang/IndexOutOfBoundsException" ["java/lang/RuntimeException", "java/lang/Exception"]).filter goodWord ++ (vx_atS RX5 231 "java/lang/IllegalArgumentException" ["java/lang/RuntimeException", "java/lang/Exception"]).filter goodWord ++ (vx_atS RX5 40 "java/lang/IllegalStateException" ["java/lang/RuntimeException", "java/lang/Exception"]).filter goodWord ++ (vx_atS RX2 77 "java/lang/IllegalStateException" ["java/lang/RuntimeException", "java/lang/Exception"]).filter goodWord)
def wsL_offence_r1 : List Cond := [Cond.classLink RL 21 "java/lang/IndexOutOfBoundsException", Cond.classLink RL 13 "java/lang/IllegalArgumentException", Cond.classLink RL 15 "java/lang/IllegalStateException", Cond.methodLink RL 23 yX5_offence, Cond.instanceMethod yX5_offence, Cond.selects RX5 yX5_offence yX5_offence, Cond.initialized RX5, Cond.code yX5_offence cX5_offence 4 (some .int), Cond.fieldLink RX5 43 "ParoleCards" "today" "I", Cond.methodLink RX5 48 yX5_findPerson, Cond.instanceMethod yX5_findPerson, Cond.selects RX5 yX5_findPerson yX5_findPerson, Cond.code yX5_findPerson cX5_findPerson 3 (some (.object "ParoleCards$Person")), Cond.classLink RX5 176 "java/lang/IndexOutOfBoundsException", Cond.initialized "java/lang/IndexOutOfBoundsException", Cond.fieldLink RX5 11 "ParoleCards" "people" "[LParoleCards$Person;", Cond.methodLink RX5 28 yX5_checkRange, Cond.static yX5_checkRange, Cond.code yX5_checkRange cX5_checkRange 3 none, Cond.classLink RX5 227 "java/lang/IllegalArgumentException", Cond.initialized "java/lang/IllegalArgumentException", Cond.methodLink RX5 56 yX5_checkIn, Cond.static yX5_checkIn, Cond.code yX5_checkIn cX5_checkIn 1 none]
def wsL_offence_r2 : List Cond := [Cond.classLink RX5 36 "java/lang/IllegalStateException", Cond.initialized "java/lang/IllegalStateException", Cond.fieldLink RX5 88 "ParoleCards$Person" "released" "Z", Cond.methodLink RX5 68 yX2_enterOffence, Cond.instanceMethod yX2_enterOffence, Cond.selects RX2 yX2_enterOffence yX2_enterOffence, Cond.initialized RX2, Cond.code yX2_enterOffence cX2_enterOffence 5 (some .int), Cond.classLink RX2 73 "java/lang/IllegalStateException", Cond.fieldLink RX2 66 "ParoleCards$Person" "offenceCount" "I", Cond.fieldLink RX2 17 "ParoleCards$Person" "offences" "[LParoleCards$Offence;", Cond.fieldLink RX2 9 "ParoleCards$Person" "regimeNow" "I", Cond.classLink RX2 15 RX0, Cond.instantiable RX0 4, Cond.initialized RX0, Cond.fieldLink RX2 60 "ParoleCards$Person" "lostDays" "I", Cond.methodLink RX2 69 yX2_hasRoomForPaper, Cond.instanceMethod yX2_hasRoomForPaper, Cond.selects RX2 yX2_hasRoomForPaper yX2_hasRoomForPaper, Cond.code yX2_hasRoomForPaper cX2_hasRoomForPaper 1 (some .boolean), Cond.fieldLink RX2 63 "ParoleCards$Person" "courseCount" "I", Cond.methodLink RX2 83 yX0_init, Cond.instanceMethod yX0_init, Cond.code yX0_init cX0_init 4 none]
def wsL_offence_r3 : List Cond := [Cond.methodLink RX0 3 objectInit, Cond.instanceMethod objectInit, Cond.code objectInit ⟨#[0xb1]⟩ 1 none, Cond.fieldLink RX0 9 "ParoleCards$Offence" "day" "I", Cond.fieldLink RX0 15 "ParoleCards$Offence" "days" "I", Cond.fieldLink RX0 18 "ParoleCards$Offence" "loweredRegime" "Z", Cond.methodLink RX2 86 yX2_leaveOrder, Cond.instanceMethod yX2_leaveOrder, Cond.selects RX2 yX2_leaveOrder yX2_leaveOrder, Cond.code yX2_leaveOrder cX2_leaveOrder 2 none, Cond.fieldLink RX2 98 "ParoleCards$Person" "order" "LParoleCards$Order;", Cond.fieldLink RX2 102 "ParoleCards$Order" "peopleOnIt" "I", Cond.fieldLink RX2 107 "ParoleCards$Order" "tools" "LParoleCards$ToolKind;", Cond.fieldLink RX2 111 "ParoleCards$ToolKind" "countedOut" "I"]
def wsL_offence : List Cond := .codeWith yL_offence cL_offence 5 (some .int) [(0, 10, 13, 21), (0, 10, 17, 13), (0, 10, 21, 15)] :: ((wsL_offence_r1 ++ (wsL_offence_r2 ++ wsL_offence_r3)) ++ wsX50 ++ wsX20 ++ wsX00 ++ wsX10 ++ wsX40 ++ (vx_atS RX5 180 "java/lang/IndexOutOfBoundsException" ["java/lang/RuntimeException", "java/lang/Exception"]).filter goodWord ++ (vx_atS RX5 231 "java/lang/IllegalArgumentException" ["java/lang/RuntimeException", "java/lang/Exception"]).filter goodWord ++ (vx_atS RX5 40 "java/lang/IllegalStateException" ["java/lang/RuntimeException", "java/lang/Exception"]).filter goodWord ++ (vx_atS RX2 77 "java/lang/IllegalStateException" ["java/lang/RuntimeException", "java/lang/Exception"]).filter goodWord)
def wsL_appeal_r1 : List Cond := [Cond.classLink RL 21 "java/lang/IndexOutOfBoundsException", Cond.classLink RL 15 "java/lang/IllegalStateException", Cond.methodLink RL 26 yX5_appeal, Cond.instanceMethod yX5_appeal, Cond.selects RX5 yX5_appeal yX5_appeal, Cond.initialized RX5, Cond.code yX5_appeal cX5_appeal 5 (some .int), Cond.classLink RX5 36 "java/lang/IllegalStateException", Cond.initialized "java/lang/IllegalStateException", Cond.fieldLink RX5 76 "ParoleCards$Offence" "appealed" "Z", Cond.methodLink RX5 48 yX5_findPerson, Cond.instanceMethod yX5_findPerson, Cond.selects RX5 yX5_findPerson yX5_findPerson, Cond.code yX5_findPerson cX5_findPerson 3 (some (.object "ParoleCards$Person")), Cond.classLink RX5 176 "java/lang/IndexOutOfBoundsException", Cond.initialized "java/lang/IndexOutOfBoundsException", Cond.fieldLink RX5 11 "ParoleCards" "people" "[LParoleCards$Person;", Cond.methodLink RX5 72 yX5_findOffence, Cond.static yX5_findOffence, Cond.code yX5_findOffence cX5_findOffence 3 (some (.object "ParoleCards$Offence")), Cond.fieldLink RX5 215 "ParoleCards$Person" "offences" "[LParoleCards$Offence;", Cond.methodLink RX5 56 yX5_checkIn, Cond.static yX5_checkIn, Cond.code yX5_checkIn cX5_checkIn 1 none]
def wsL_appeal_r2 : List Cond := [Cond.fieldLink RX5 88 "ParoleCards$Person" "released" "Z", Cond.methodLink RX5 84 yX2_appealOffence, Cond.instanceMethod yX2_appealOffence, Cond.selects RX2 yX2_appealOffence yX2_appealOffence, Cond.initialized RX2, Cond.code yX2_appealOffence cX2_appealOffence 2 none, Cond.fieldLink RX2 89 "ParoleCards$Offence" "appealed" "Z", Cond.fieldLink RX2 60 "ParoleCards$Person" "lostDays" "I", Cond.fieldLink RX2 92 "ParoleCards$Offence" "days" "I", Cond.fieldLink RX2 95 "ParoleCards$Offence" "loweredRegime" "Z", Cond.methodLink RX2 80 yX2_raiseRegime, Cond.instanceMethod yX2_raiseRegime, Cond.selects RX2 yX2_raiseRegime yX2_raiseRegime, Cond.code yX2_raiseRegime cX2_raiseRegime 1 none, Cond.fieldLink RX2 9 "ParoleCards$Person" "regimeNow" "I", Cond.methodLink RX2 54 Lib.Math.min.name, Cond.static Lib.Math.min.name, Cond.initialized "java/lang/Math", Cond.code Lib.Math.min.name Lib.Math.min.code 2 (some .int), Cond.methodLink RX5 64 yX2_releaseDay, Cond.instanceMethod yX2_releaseDay, Cond.selects RX2 yX2_releaseDay yX2_releaseDay, Cond.code yX2_releaseDay cX2_releaseDay 1 (some .int), Cond.fieldLink RX2 43 "ParoleCards$Person" "released" "Z"]
def wsL_appeal_r3 : List Cond := [Cond.fieldLink RX2 47 "ParoleCards$Person" "releasedOn" "I", Cond.fieldLink RX2 28 "ParoleCards$Person" "admittedOn" "I", Cond.fieldLink RX2 31 "ParoleCards$Person" "term" "I", Cond.methodLink RX2 50 yX2_gainedDays, Cond.instanceMethod yX2_gainedDays, Cond.selects RX2 yX2_gainedDays yX2_gainedDays, Cond.code yX2_gainedDays cX2_gainedDays 1 (some .int), Cond.fieldLink RX2 37 "ParoleCards$Person" "workedDays" "I", Cond.fieldLink RX2 40 "ParoleCards$Person" "courseDays" "I"]
def wsL_appeal : List Cond := .codeWith yL_appeal cL_appeal 5 (some .int) [(0, 10, 13, 21), (0, 10, 17, 15)] :: ((wsL_appeal_r1 ++ (wsL_appeal_r2 ++ wsL_appeal_r3)) ++ wsX00 ++ wsX50 ++ wsX20 ++ (vx_atS RX5 40 "java/lang/IllegalStateException" ["java/lang/RuntimeException", "java/lang/Exception"]).filter goodWord ++ (vx_atS RX5 180 "java/lang/IndexOutOfBoundsException" ["java/lang/RuntimeException", "java/lang/Exception"]).filter goodWord)
def wsL_release_r1 : List Cond := [Cond.classLink RL 21 "java/lang/IndexOutOfBoundsException", Cond.methodLink RL 29 yX5_release, Cond.instanceMethod yX5_release, Cond.selects RX5 yX5_release yX5_release, Cond.initialized RX5, Cond.code yX5_release cX5_release 2 (some .int), Cond.methodLink RX5 48 yX5_findPerson, Cond.instanceMethod yX5_findPerson, Cond.selects RX5 yX5_findPerson yX5_findPerson, Cond.code yX5_findPerson cX5_findPerson 3 (some (.object "ParoleCards$Person")), Cond.classLink RX5 176 "java/lang/IndexOutOfBoundsException", Cond.initialized "java/lang/IndexOutOfBoundsException", Cond.fieldLink RX5 11 "ParoleCards" "people" "[LParoleCards$Person;", Cond.methodLink RX5 64 yX2_releaseDay, Cond.instanceMethod yX2_releaseDay, Cond.selects RX2 yX2_releaseDay yX2_releaseDay, Cond.initialized RX2, Cond.code yX2_releaseDay cX2_releaseDay 1 (some .int), Cond.fieldLink RX2 43 "ParoleCards$Person" "released" "Z", Cond.fieldLink RX2 47 "ParoleCards$Person" "releasedOn" "I", Cond.fieldLink RX2 28 "ParoleCards$Person" "admittedOn" "I", Cond.fieldLink RX2 31 "ParoleCards$Person" "term" "I", Cond.methodLink RX2 54 Lib.Math.min.name, Cond.static Lib.Math.min.name]
def wsL_release_r2 : List Cond := [Cond.initialized "java/lang/Math", Cond.code Lib.Math.min.name Lib.Math.min.code 2 (some .int), Cond.fieldLink RX2 60 "ParoleCards$Person" "lostDays" "I", Cond.methodLink RX2 50 yX2_gainedDays, Cond.instanceMethod yX2_gainedDays, Cond.selects RX2 yX2_gainedDays yX2_gainedDays, Cond.code yX2_gainedDays cX2_gainedDays 1 (some .int), Cond.fieldLink RX2 37 "ParoleCards$Person" "workedDays" "I", Cond.fieldLink RX2 40 "ParoleCards$Person" "courseDays" "I"]
def wsL_release : List Cond := .codeWith yL_release cL_release 4 (some .int) [(0, 9, 12, 21)] :: ((wsL_release_r1 ++ wsL_release_r2) ++ wsX50 ++ wsX20 ++ (vx_atS RX5 180 "java/lang/IndexOutOfBoundsException" ["java/lang/RuntimeException", "java/lang/Exception"]).filter goodWord)
def wsL_isIn : List Cond := .codeWith yL_isIn cL_isIn 4 (some .int) [(0, 16, 19, 21)] :: ([.classLink RL 21 "java/lang/IndexOutOfBoundsException", .methodLink RL 33 yX5_isIn, .instanceMethod yX5_isIn, .selects RX5 yX5_isIn yX5_isIn, .initialized RX5, .code yX5_isIn cX5_isIn 2 (some .boolean), .fieldLink RX5 88 "ParoleCards$Person" "released" "Z", .methodLink RX5 48 yX5_findPerson, .instanceMethod yX5_findPerson, .selects RX5 yX5_findPerson yX5_findPerson, .code yX5_findPerson cX5_findPerson 3 (some (.object "ParoleCards$Person")), .classLink RX5 176 "java/lang/IndexOutOfBoundsException", .initialized "java/lang/IndexOutOfBoundsException", .fieldLink RX5 11 "ParoleCards" "people" "[LParoleCards$Person;"] ++ wsX20 ++ wsX50 ++ (vx_atS RX5 180 "java/lang/IndexOutOfBoundsException" ["java/lang/RuntimeException", "java/lang/Exception"]).filter goodWord)
def wsL_regime : List Cond := .codeWith yL_regime cL_regime 4 (some .int) [(0, 9, 12, 21)] :: ([.classLink RL 21 "java/lang/IndexOutOfBoundsException", .methodLink RL 37 yX5_regime, .instanceMethod yX5_regime, .selects RX5 yX5_regime yX5_regime, .initialized RX5, .code yX5_regime cX5_regime 2 (some .int), .fieldLink RX5 91 "ParoleCards$Person" "regimeNow" "I", .methodLink RX5 48 yX5_findPerson, .instanceMethod yX5_findPerson, .selects RX5 yX5_findPerson yX5_findPerson, .code yX5_findPerson cX5_findPerson 3 (some (.object "ParoleCards$Person")), .classLink RX5 176 "java/lang/IndexOutOfBoundsException", .initialized "java/lang/IndexOutOfBoundsException", .fieldLink RX5 11 "ParoleCards" "people" "[LParoleCards$Person;"] ++ wsX20 ++ wsX50 ++ (vx_atS RX5 180 "java/lang/IndexOutOfBoundsException" ["java/lang/RuntimeException", "java/lang/Exception"]).filter goodWord)
def wsL_papers : List Cond := .codeWith yL_papers cL_papers 5 (some .int) [(0, 10, 13, 21)] :: ([.classLink RL 21 "java/lang/IndexOutOfBoundsException", .methodLink RL 40 yX5_papers, .instanceMethod yX5_papers, .selects RX5 yX5_papers yX5_papers, .initialized RX5, .code yX5_papers cX5_papers 4 (some .int), .fieldLink RX5 94 "ParoleCards$Person" "lostDays" "I", .methodLink RX5 48 yX5_findPerson, .instanceMethod yX5_findPerson, .selects RX5 yX5_findPerson yX5_findPerson, .code yX5_findPerson cX5_findPerson 3 (some (.object "ParoleCards$Person")), .classLink RX5 176 "java/lang/IndexOutOfBoundsException", .initialized "java/lang/IndexOutOfBoundsException", .fieldLink RX5 11 "ParoleCards" "people" "[LParoleCards$Person;", .methodLink RX5 97 yX2_gainedDays, .instanceMethod yX2_gainedDays, .selects RX2 yX2_gainedDays yX2_gainedDays, .initialized RX2, .code yX2_gainedDays cX2_gainedDays 1 (some .int), .fieldLink RX2 37 "ParoleCards$Person" "workedDays" "I", .fieldLink RX2 40 "ParoleCards$Person" "courseDays" "I"] ++ wsX20 ++ wsX50 ++ (vx_atS RX5 180 "java/lang/IndexOutOfBoundsException" ["java/lang/RuntimeException", "java/lang/Exception"]).filter goodWord)
def wsL_setTools : List Cond := .codeWith yL_setTools cL_setTools 5 (some .int) [(0, 10, 13, 21), (0, 10, 17, 13), (0, 10, 21, 15)] :: ([.classLink RL 21 "java/lang/IndexOutOfBoundsException", .classLink RL 13 "java/lang/IllegalArgumentException", .classLink RL 15 "java/lang/IllegalStateException", .methodLink RL 44 yX5_setTools, .instanceMethod yX5_setTools, .selects RX5 yX5_setTools yX5_setTools, .initialized RX5, .code yX5_setTools cX5_setTools 5 (some .int), .classLink RX5 36 "java/lang/IllegalStateException", .initialized "java/lang/IllegalStateException", .fieldLink RX5 104 "ParoleCards$ToolKind" "countedOut" "I", .fieldLink RX5 109 "ParoleCards$ToolKind" "count" "I", .methodLink RX5 100 yX5_findTools, .instanceMethod yX5_findTools, .selects RX5 yX5_findTools yX5_findTools, .code yX5_findTools cX5_findTools 3 (some (.object "ParoleCards$ToolKind")), .classLink RX5 176 "java/lang/IndexOutOfBoundsException", .initialized "java/lang/IndexOutOfBoundsException", .fieldLink RX5 23 "ParoleCards" "toolKinds" "[LParoleCards$ToolKind;", .methodLink RX5 28 yX5_checkRange, .static yX5_checkRange, .code yX5_checkRange cX5_checkRange 3 none, .classLink RX5 227 "java/lang/IllegalArgumentException", .initialized "java/lang/IllegalArgumentException"] ++ wsX40 ++ wsX50 ++ (vx_atS RX5 40 "java/lang/IllegalStateException" ["java/lang/RuntimeException", "java/lang/Exception"]).filter goodWord ++ (vx_atS RX5 180 "java/lang/IndexOutOfBoundsException" ["java/lang/RuntimeException", "java/lang/Exception"]).filter goodWord ++ (vx_atS RX5 231 "java/lang/IllegalArgumentException" ["java/lang/RuntimeException", "java/lang/Exception"]).filter goodWord)
def wsL_toolsOut : List Cond := .codeWith yL_toolsOut cL_toolsOut 4 (some .int) [(0, 9, 12, 21)] :: ([.classLink RL 21 "java/lang/IndexOutOfBoundsException", .methodLink RL 47 yX5_toolsOut, .instanceMethod yX5_toolsOut, .selects RX5 yX5_toolsOut yX5_toolsOut, .initialized RX5, .code yX5_toolsOut cX5_toolsOut 2 (some .int), .fieldLink RX5 104 "ParoleCards$ToolKind" "countedOut" "I", .methodLink RX5 100 yX5_findTools, .instanceMethod yX5_findTools, .selects RX5 yX5_findTools yX5_findTools, .code yX5_findTools cX5_findTools 3 (some (.object "ParoleCards$ToolKind")), .classLink RX5 176 "java/lang/IndexOutOfBoundsException", .initialized "java/lang/IndexOutOfBoundsException", .fieldLink RX5 23 "ParoleCards" "toolKinds" "[LParoleCards$ToolKind;"] ++ wsX40 ++ wsX50 ++ (vx_atS RX5 180 "java/lang/IndexOutOfBoundsException" ["java/lang/RuntimeException", "java/lang/Exception"]).filter goodWord)
def wsL_addOrder_r1 : List Cond := [Cond.classLink RL 21 "java/lang/IndexOutOfBoundsException", Cond.classLink RL 13 "java/lang/IllegalArgumentException", Cond.classLink RL 15 "java/lang/IllegalStateException", Cond.methodLink RL 50 yX5_addOrder, Cond.instanceMethod yX5_addOrder, Cond.selects RX5 yX5_addOrder yX5_addOrder, Cond.initialized RX5, Cond.code yX5_addOrder cX5_addOrder 7 (some .int), Cond.classLink RX5 36 "java/lang/IllegalStateException", Cond.initialized "java/lang/IllegalStateException", Cond.fieldLink RX5 112 "ParoleCards" "orderCount" "I", Cond.fieldLink RX5 17 "ParoleCards" "orders" "[LParoleCards$Order;", Cond.classLink RX5 15 RX1, Cond.instantiable RX1 6, Cond.initialized RX1, Cond.methodLink RX5 52 yX5_checkSkill, Cond.static yX5_checkSkill, Cond.code yX5_checkSkill cX5_checkSkill 1 none, Cond.classLink RX5 176 "java/lang/IndexOutOfBoundsException", Cond.initialized "java/lang/IndexOutOfBoundsException", Cond.methodLink RX5 100 yX5_findTools, Cond.instanceMethod yX5_findTools, Cond.selects RX5 yX5_findTools yX5_findTools, Cond.code yX5_findTools cX5_findTools 3 (some (.object "ParoleCards$ToolKind"))]
def wsL_addOrder_r2 : List Cond := [Cond.fieldLink RX5 23 "ParoleCards" "toolKinds" "[LParoleCards$ToolKind;", Cond.methodLink RX5 28 yX5_checkRange, Cond.static yX5_checkRange, Cond.code yX5_checkRange cX5_checkRange 3 none, Cond.classLink RX5 227 "java/lang/IllegalArgumentException", Cond.initialized "java/lang/IllegalArgumentException", Cond.methodLink RX5 117 yX1_init, Cond.instanceMethod yX1_init, Cond.code yX1_init cX1_init 6 none, Cond.methodLink RX1 1 objectInit, Cond.instanceMethod objectInit, Cond.code objectInit ⟨#[0xb1]⟩ 1 none, Cond.fieldLink RX1 7 "ParoleCards$Order" "number" "I", Cond.fieldLink RX1 13 "ParoleCards$Order" "skill" "I", Cond.fieldLink RX1 16 "ParoleCards$Order" "tools" "LParoleCards$ToolKind;", Cond.fieldLink RX1 20 "ParoleCards$Order" "workLeft" "I", Cond.fieldLink RX1 23 "ParoleCards$Order" "wage" "I"]
def wsL_addOrder : List Cond := .codeWith yL_addOrder cL_addOrder 7 (some .int) [(0, 14, 17, 21), (0, 14, 21, 13), (0, 14, 25, 15)] :: ((wsL_addOrder_r1 ++ wsL_addOrder_r2) ++ wsX50 ++ wsX10 ++ (vx_atS RX5 40 "java/lang/IllegalStateException" ["java/lang/RuntimeException", "java/lang/Exception"]).filter goodWord ++ (vx_atS RX5 180 "java/lang/IndexOutOfBoundsException" ["java/lang/RuntimeException", "java/lang/Exception"]).filter goodWord ++ (vx_atS RX5 231 "java/lang/IllegalArgumentException" ["java/lang/RuntimeException", "java/lang/Exception"]).filter goodWord)
def wsL_assign_r1 : List Cond := [Cond.classLink RL 21 "java/lang/IndexOutOfBoundsException", Cond.classLink RL 15 "java/lang/IllegalStateException", Cond.methodLink RL 54 yX5_assign, Cond.instanceMethod yX5_assign, Cond.selects RX5 yX5_assign yX5_assign, Cond.initialized RX5, Cond.code yX5_assign cX5_assign 5 (some .int), Cond.classLink RX5 36 "java/lang/IllegalStateException", Cond.initialized "java/lang/IllegalStateException", Cond.fieldLink RX5 124 "ParoleCards$Person" "order" "LParoleCards$Order;", Cond.fieldLink RX5 130 "ParoleCards$Order" "skill" "I", Cond.fieldLink RX5 152 "ParoleCards$Order" "peopleOnIt" "I", Cond.methodLink RX5 48 yX5_findPerson, Cond.instanceMethod yX5_findPerson, Cond.selects RX5 yX5_findPerson yX5_findPerson, Cond.code yX5_findPerson cX5_findPerson 3 (some (.object "ParoleCards$Person")), Cond.classLink RX5 176 "java/lang/IndexOutOfBoundsException", Cond.initialized "java/lang/IndexOutOfBoundsException", Cond.fieldLink RX5 11 "ParoleCards" "people" "[LParoleCards$Person;", Cond.methodLink RX5 120 yX5_findOrder, Cond.instanceMethod yX5_findOrder, Cond.selects RX5 yX5_findOrder yX5_findOrder, Cond.code yX5_findOrder cX5_findOrder 3 (some (.object "ParoleCards$Order")), Cond.fieldLink RX5 17 "ParoleCards" "orders" "[LParoleCards$Order;"]
def wsL_assign_r2 : List Cond := [Cond.methodLink RX5 56 yX5_checkIn, Cond.static yX5_checkIn, Cond.code yX5_checkIn cX5_checkIn 1 none, Cond.fieldLink RX5 88 "ParoleCards$Person" "released" "Z", Cond.methodLink RX5 133 yX2_hasSkill, Cond.instanceMethod yX2_hasSkill, Cond.selects RX2 yX2_hasSkill yX2_hasSkill, Cond.initialized RX2, Cond.code yX2_hasSkill cX2_hasSkill 2 (some .boolean), Cond.fieldLink RX2 34 "ParoleCards$Person" "skills" "I", Cond.methodLink RX5 139 yX1_isFinished, Cond.instanceMethod yX1_isFinished, Cond.selects RX1 yX1_isFinished yX1_isFinished, Cond.initialized RX1, Cond.code yX1_isFinished cX1_isFinished 1 (some .boolean), Cond.fieldLink RX1 20 "ParoleCards$Order" "workLeft" "I", Cond.methodLink RX5 143 yX1_hasFreeTool, Cond.instanceMethod yX1_hasFreeTool, Cond.selects RX1 yX1_hasFreeTool yX1_hasFreeTool, Cond.code yX1_hasFreeTool cX1_hasFreeTool 1 (some .boolean), Cond.fieldLink RX1 16 "ParoleCards$Order" "tools" "LParoleCards$ToolKind;", Cond.fieldLink RX1 26 "ParoleCards$ToolKind" "countedOut" "I", Cond.fieldLink RX1 31 "ParoleCards$ToolKind" "count" "I", Cond.methodLink RX5 148 yX2_joinOrder]
def wsL_assign_r3 : List Cond := [Cond.instanceMethod yX2_joinOrder, Cond.selects RX2 yX2_joinOrder yX2_joinOrder, Cond.code yX2_joinOrder cX2_joinOrder 2 none, Cond.fieldLink RX2 98 "ParoleCards$Person" "order" "LParoleCards$Order;", Cond.fieldLink RX2 102 "ParoleCards$Order" "peopleOnIt" "I", Cond.fieldLink RX2 107 "ParoleCards$Order" "tools" "LParoleCards$ToolKind;", Cond.fieldLink RX2 111 "ParoleCards$ToolKind" "countedOut" "I"]
def wsL_assign : List Cond := .codeWith yL_assign cL_assign 5 (some .int) [(0, 10, 13, 21), (0, 10, 17, 15)] :: ((wsL_assign_r1 ++ (wsL_assign_r2 ++ wsL_assign_r3)) ++ wsX20 ++ wsX10 ++ wsX50 ++ wsX40 ++ (vx_atS RX5 40 "java/lang/IllegalStateException" ["java/lang/RuntimeException", "java/lang/Exception"]).filter goodWord ++ (vx_atS RX5 180 "java/lang/IndexOutOfBoundsException" ["java/lang/RuntimeException", "java/lang/Exception"]).filter goodWord)
def wsL_takeOff_r1 : List Cond := [Cond.classLink RL 21 "java/lang/IndexOutOfBoundsException", Cond.classLink RL 15 "java/lang/IllegalStateException", Cond.methodLink RL 57 yX5_takeOff, Cond.instanceMethod yX5_takeOff, Cond.selects RX5 yX5_takeOff yX5_takeOff, Cond.initialized RX5, Cond.code yX5_takeOff cX5_takeOff 4 (some .int), Cond.classLink RX5 36 "java/lang/IllegalStateException", Cond.initialized "java/lang/IllegalStateException", Cond.fieldLink RX5 124 "ParoleCards$Person" "order" "LParoleCards$Order;", Cond.fieldLink RX5 160 "ParoleCards$Order" "number" "I", Cond.methodLink RX5 48 yX5_findPerson, Cond.instanceMethod yX5_findPerson, Cond.selects RX5 yX5_findPerson yX5_findPerson, Cond.code yX5_findPerson cX5_findPerson 3 (some (.object "ParoleCards$Person")), Cond.classLink RX5 176 "java/lang/IndexOutOfBoundsException", Cond.initialized "java/lang/IndexOutOfBoundsException", Cond.fieldLink RX5 11 "ParoleCards" "people" "[LParoleCards$Person;", Cond.methodLink RX5 157 yX2_leaveOrder, Cond.instanceMethod yX2_leaveOrder, Cond.selects RX2 yX2_leaveOrder yX2_leaveOrder, Cond.initialized RX2, Cond.code yX2_leaveOrder cX2_leaveOrder 2 none, Cond.fieldLink RX2 98 "ParoleCards$Person" "order" "LParoleCards$Order;"]
def wsL_takeOff_r2 : List Cond := [Cond.fieldLink RX2 102 "ParoleCards$Order" "peopleOnIt" "I", Cond.fieldLink RX2 107 "ParoleCards$Order" "tools" "LParoleCards$ToolKind;", Cond.fieldLink RX2 111 "ParoleCards$ToolKind" "countedOut" "I"]
def wsL_takeOff : List Cond := .codeWith yL_takeOff cL_takeOff 4 (some .int) [(0, 9, 12, 21), (0, 9, 15, 15)] :: ((wsL_takeOff_r1 ++ wsL_takeOff_r2) ++ wsX20 ++ wsX10 ++ wsX50 ++ wsX40 ++ (vx_atS RX5 40 "java/lang/IllegalStateException" ["java/lang/RuntimeException", "java/lang/Exception"]).filter goodWord ++ (vx_atS RX5 180 "java/lang/IndexOutOfBoundsException" ["java/lang/RuntimeException", "java/lang/Exception"]).filter goodWord)
def wsL_orderOf : List Cond := .codeWith yL_orderOf cL_orderOf 4 (some .int) [(0, 9, 12, 21)] :: ([.classLink RL 21 "java/lang/IndexOutOfBoundsException", .methodLink RL 60 yX5_orderOf, .instanceMethod yX5_orderOf, .selects RX5 yX5_orderOf yX5_orderOf, .initialized RX5, .code yX5_orderOf cX5_orderOf 3 (some .int), .fieldLink RX5 124 "ParoleCards$Person" "order" "LParoleCards$Order;", .fieldLink RX5 160 "ParoleCards$Order" "number" "I", .methodLink RX5 48 yX5_findPerson, .instanceMethod yX5_findPerson, .selects RX5 yX5_findPerson yX5_findPerson, .code yX5_findPerson cX5_findPerson 3 (some (.object "ParoleCards$Person")), .classLink RX5 176 "java/lang/IndexOutOfBoundsException", .initialized "java/lang/IndexOutOfBoundsException", .fieldLink RX5 11 "ParoleCards" "people" "[LParoleCards$Person;"] ++ wsX20 ++ wsX10 ++ wsX50 ++ (vx_atS RX5 180 "java/lang/IndexOutOfBoundsException" ["java/lang/RuntimeException", "java/lang/Exception"]).filter goodWord)
def wsL_left : List Cond := .codeWith yL_left cL_left 4 (some .int) [(0, 9, 12, 21)] :: ([.classLink RL 21 "java/lang/IndexOutOfBoundsException", .methodLink RL 63 yX5_left, .instanceMethod yX5_left, .selects RX5 yX5_left yX5_left, .initialized RX5, .code yX5_left cX5_left 2 (some .int), .fieldLink RX5 163 "ParoleCards$Order" "workLeft" "I", .methodLink RX5 120 yX5_findOrder, .instanceMethod yX5_findOrder, .selects RX5 yX5_findOrder yX5_findOrder, .code yX5_findOrder cX5_findOrder 3 (some (.object "ParoleCards$Order")), .classLink RX5 176 "java/lang/IndexOutOfBoundsException", .initialized "java/lang/IndexOutOfBoundsException", .fieldLink RX5 17 "ParoleCards" "orders" "[LParoleCards$Order;"] ++ wsX10 ++ wsX50 ++ (vx_atS RX5 180 "java/lang/IndexOutOfBoundsException" ["java/lang/RuntimeException", "java/lang/Exception"]).filter goodWord)
def wsL_account : List Cond := .codeWith yL_account cL_account 5 (some .int) [(0, 10, 13, 21)] :: ([.classLink RL 21 "java/lang/IndexOutOfBoundsException", .methodLink RL 66 yX5_account, .instanceMethod yX5_account, .selects RX5 yX5_account yX5_account, .initialized RX5, .code yX5_account cX5_account 4 (some .int), .classLink RX5 176 "java/lang/IndexOutOfBoundsException", .initialized "java/lang/IndexOutOfBoundsException", .fieldLink RX5 166 "ParoleCards$Person" "purse" "LParoleCards$Purse;", .fieldLink RX5 170 "ParoleCards$Purse" "accounts" "[I", .methodLink RX5 48 yX5_findPerson, .instanceMethod yX5_findPerson, .selects RX5 yX5_findPerson yX5_findPerson, .code yX5_findPerson cX5_findPerson 3 (some (.object "ParoleCards$Person")), .fieldLink RX5 11 "ParoleCards" "people" "[LParoleCards$Person;"] ++ wsX20 ++ wsX30 ++ wsX50 ++ (vx_atS RX5 180 "java/lang/IndexOutOfBoundsException" ["java/lang/RuntimeException", "java/lang/Exception"]).filter goodWord)
def wsL_buy_r1 : List Cond := [Cond.classLink RL 21 "java/lang/IndexOutOfBoundsException", Cond.classLink RL 13 "java/lang/IllegalArgumentException", Cond.classLink RL 15 "java/lang/IllegalStateException", Cond.methodLink RL 69 yX5_buy, Cond.instanceMethod yX5_buy, Cond.selects RX5 yX5_buy yX5_buy, Cond.initialized RX5, Cond.code yX5_buy cX5_buy 5 (some .int), Cond.classLink RX5 36 "java/lang/IllegalStateException", Cond.initialized "java/lang/IllegalStateException", Cond.fieldLink RX5 166 "ParoleCards$Person" "purse" "LParoleCards$Purse;", Cond.fieldLink RX5 170 "ParoleCards$Purse" "accounts" "[I", Cond.fieldLink RX5 43 "ParoleCards" "today" "I", Cond.methodLink RX5 48 yX5_findPerson, Cond.instanceMethod yX5_findPerson, Cond.selects RX5 yX5_findPerson yX5_findPerson, Cond.code yX5_findPerson cX5_findPerson 3 (some (.object "ParoleCards$Person")), Cond.classLink RX5 176 "java/lang/IndexOutOfBoundsException", Cond.initialized "java/lang/IndexOutOfBoundsException", Cond.fieldLink RX5 11 "ParoleCards" "people" "[LParoleCards$Person;", Cond.methodLink RX5 28 yX5_checkRange, Cond.static yX5_checkRange, Cond.code yX5_checkRange cX5_checkRange 3 none, Cond.classLink RX5 227 "java/lang/IllegalArgumentException"]
def wsL_buy_r2 : List Cond := [Cond.initialized "java/lang/IllegalArgumentException", Cond.methodLink RX5 56 yX5_checkIn, Cond.static yX5_checkIn, Cond.code yX5_checkIn cX5_checkIn 1 none, Cond.fieldLink RX5 88 "ParoleCards$Person" "released" "Z", Cond.methodLink RX5 183 yX2_mayStillBuy, Cond.instanceMethod yX2_mayStillBuy, Cond.selects RX2 yX2_mayStillBuy yX2_mayStillBuy, Cond.initialized RX2, Cond.code yX2_mayStillBuy cX2_mayStillBuy 2 (some .int), Cond.fieldLink RX2 43 "ParoleCards$Person" "released" "Z", Cond.fieldLink RX2 24 "ParoleCards$Person" "purse" "LParoleCards$Purse;", Cond.methodLink RX2 133 Lib.Math.max.name, Cond.static Lib.Math.max.name, Cond.initialized "java/lang/Math", Cond.code Lib.Math.max.name Lib.Math.max.code 2 (some .int), Cond.methodLink RX2 136 yX2_limitOfSpan, Cond.instanceMethod yX2_limitOfSpan, Cond.selects RX2 yX2_limitOfSpan yX2_limitOfSpan, Cond.code yX2_limitOfSpan cX2_limitOfSpan 7 (some .int), Cond.fieldLink RX2 9 "ParoleCards$Person" "regimeNow" "I", Cond.fieldLink RX2 17 "ParoleCards$Person" "offences" "[LParoleCards$Offence;", Cond.methodLink RX2 129 yX0_lowersLimitOn, Cond.instanceMethod yX0_lowersLimitOn]
def wsL_buy_r3 : List Cond := [Cond.selects RX0 yX0_lowersLimitOn yX0_lowersLimitOn, Cond.initialized RX0, Cond.code yX0_lowersLimitOn cX0_lowersLimitOn 2 (some .boolean), Cond.fieldLink RX0 22 "ParoleCards$Offence" "appealed" "Z", Cond.fieldLink RX0 9 "ParoleCards$Offence" "day" "I", Cond.methodLink RX2 140 yX3_boughtInSpan, Cond.instanceMethod yX3_boughtInSpan, Cond.selects RX3 yX3_boughtInSpan yX3_boughtInSpan, Cond.initialized RX3, Cond.code yX3_boughtInSpan cX3_boughtInSpan 2 (some .int), Cond.fieldLink RX3 15 "ParoleCards$Purse" "lastSpan" "I", Cond.fieldLink RX3 19 "ParoleCards$Purse" "boughtInLastSpan" "I", Cond.methodLink RX5 189 yX3_spend, Cond.instanceMethod yX3_spend, Cond.selects RX3 yX3_spend yX3_spend, Cond.code yX3_spend cX3_spend 3 none, Cond.fieldLink RX3 9 "ParoleCards$Purse" "accounts" "[I", Cond.methodLink RX3 22 yX3_boughtInSpan]
def wsL_buy : List Cond := .codeWith yL_buy cL_buy 5 (some .int) [(0, 10, 13, 21), (0, 10, 17, 13), (0, 10, 21, 15)] :: ((wsL_buy_r1 ++ (wsL_buy_r2 ++ wsL_buy_r3)) ++ wsX20 ++ wsX30 ++ wsX50 ++ wsX00 ++ (vx_atS RX5 40 "java/lang/IllegalStateException" ["java/lang/RuntimeException", "java/lang/Exception"]).filter goodWord ++ (vx_atS RX5 180 "java/lang/IndexOutOfBoundsException" ["java/lang/RuntimeException", "java/lang/Exception"]).filter goodWord ++ (vx_atS RX5 231 "java/lang/IllegalArgumentException" ["java/lang/RuntimeException", "java/lang/Exception"]).filter goodWord)
def wsL_limit_r1 : List Cond := [Cond.classLink RL 21 "java/lang/IndexOutOfBoundsException", Cond.methodLink RL 72 yX5_limit, Cond.instanceMethod yX5_limit, Cond.selects RX5 yX5_limit yX5_limit, Cond.initialized RX5, Cond.code yX5_limit cX5_limit 2 (some .int), Cond.fieldLink RX5 43 "ParoleCards" "today" "I", Cond.methodLink RX5 48 yX5_findPerson, Cond.instanceMethod yX5_findPerson, Cond.selects RX5 yX5_findPerson yX5_findPerson, Cond.code yX5_findPerson cX5_findPerson 3 (some (.object "ParoleCards$Person")), Cond.classLink RX5 176 "java/lang/IndexOutOfBoundsException", Cond.initialized "java/lang/IndexOutOfBoundsException", Cond.fieldLink RX5 11 "ParoleCards" "people" "[LParoleCards$Person;", Cond.methodLink RX5 183 yX2_mayStillBuy, Cond.instanceMethod yX2_mayStillBuy, Cond.selects RX2 yX2_mayStillBuy yX2_mayStillBuy, Cond.initialized RX2, Cond.code yX2_mayStillBuy cX2_mayStillBuy 2 (some .int), Cond.fieldLink RX2 43 "ParoleCards$Person" "released" "Z", Cond.fieldLink RX2 24 "ParoleCards$Person" "purse" "LParoleCards$Purse;", Cond.methodLink RX2 133 Lib.Math.max.name, Cond.static Lib.Math.max.name, Cond.initialized "java/lang/Math"]
def wsL_limit_r2 : List Cond := [Cond.code Lib.Math.max.name Lib.Math.max.code 2 (some .int), Cond.methodLink RX2 136 yX2_limitOfSpan, Cond.instanceMethod yX2_limitOfSpan, Cond.selects RX2 yX2_limitOfSpan yX2_limitOfSpan, Cond.code yX2_limitOfSpan cX2_limitOfSpan 7 (some .int), Cond.fieldLink RX2 9 "ParoleCards$Person" "regimeNow" "I", Cond.fieldLink RX2 17 "ParoleCards$Person" "offences" "[LParoleCards$Offence;", Cond.methodLink RX2 129 yX0_lowersLimitOn, Cond.instanceMethod yX0_lowersLimitOn, Cond.selects RX0 yX0_lowersLimitOn yX0_lowersLimitOn, Cond.initialized RX0, Cond.code yX0_lowersLimitOn cX0_lowersLimitOn 2 (some .boolean), Cond.fieldLink RX0 22 "ParoleCards$Offence" "appealed" "Z", Cond.fieldLink RX0 9 "ParoleCards$Offence" "day" "I", Cond.methodLink RX2 140 yX3_boughtInSpan, Cond.instanceMethod yX3_boughtInSpan, Cond.selects RX3 yX3_boughtInSpan yX3_boughtInSpan, Cond.initialized RX3, Cond.code yX3_boughtInSpan cX3_boughtInSpan 2 (some .int), Cond.fieldLink RX3 15 "ParoleCards$Purse" "lastSpan" "I", Cond.fieldLink RX3 19 "ParoleCards$Purse" "boughtInLastSpan" "I"]
def wsL_limit : List Cond := .codeWith yL_limit cL_limit 4 (some .int) [(0, 9, 12, 21)] :: ((wsL_limit_r1 ++ wsL_limit_r2) ++ wsX50 ++ wsX20 ++ wsX00 ++ wsX30 ++ (vx_atS RX5 180 "java/lang/IndexOutOfBoundsException" ["java/lang/RuntimeException", "java/lang/Exception"]).filter goodWord)
def wsL_paidOut : List Cond := .codeWith yL_paidOut cL_paidOut 4 (some .int) [(0, 9, 12, 21)] :: ([.classLink RL 21 "java/lang/IndexOutOfBoundsException", .methodLink RL 75 yX5_paidOut, .instanceMethod yX5_paidOut, .selects RX5 yX5_paidOut yX5_paidOut, .initialized RX5, .code yX5_paidOut cX5_paidOut 2 (some .int), .fieldLink RX5 166 "ParoleCards$Person" "purse" "LParoleCards$Purse;", .fieldLink RX5 192 "ParoleCards$Purse" "paidOutSum" "I", .methodLink RX5 48 yX5_findPerson, .instanceMethod yX5_findPerson, .selects RX5 yX5_findPerson yX5_findPerson, .code yX5_findPerson cX5_findPerson 3 (some (.object "ParoleCards$Person")), .classLink RX5 176 "java/lang/IndexOutOfBoundsException", .initialized "java/lang/IndexOutOfBoundsException", .fieldLink RX5 11 "ParoleCards" "people" "[LParoleCards$Person;"] ++ wsX20 ++ wsX30 ++ wsX50 ++ (vx_atS RX5 180 "java/lang/IndexOutOfBoundsException" ["java/lang/RuntimeException", "java/lang/Exception"]).filter goodWord)
def wsL_pass_r1 : List Cond := [Cond.classLink RL 13 "java/lang/IllegalArgumentException", Cond.methodLink RL 78 yX5_pass, Cond.instanceMethod yX5_pass, Cond.selects RX5 yX5_pass yX5_pass, Cond.initialized RX5, Cond.code yX5_pass cX5_pass 4 (some .int), Cond.fieldLink RX5 43 "ParoleCards" "today" "I", Cond.methodLink RX5 28 yX5_checkRange, Cond.static yX5_checkRange, Cond.code yX5_checkRange cX5_checkRange 3 none, Cond.classLink RX5 227 "java/lang/IllegalArgumentException", Cond.initialized "java/lang/IllegalArgumentException", Cond.methodLink RX5 195 yX5_workInTheShop, Cond.instanceMethod yX5_workInTheShop, Cond.selects RX5 yX5_workInTheShop yX5_workInTheShop, Cond.code yX5_workInTheShop cX5_workInTheShop 5 none, Cond.fieldLink RX5 11 "ParoleCards" "people" "[LParoleCards$Person;", Cond.methodLink RX5 201 yX2_workOneDay, Cond.instanceMethod yX2_workOneDay, Cond.selects RX2 yX2_workOneDay yX2_workOneDay, Cond.initialized RX2, Cond.code yX2_workOneDay cX2_workOneDay 2 none, Cond.fieldLink RX2 98 "ParoleCards$Person" "order" "LParoleCards$Order;", Cond.fieldLink RX2 119 "ParoleCards$Order" "workLeft" "I"]
def wsL_pass_r2 : List Cond := [Cond.fieldLink RX2 37 "ParoleCards$Person" "workedDays" "I", Cond.fieldLink RX2 24 "ParoleCards$Person" "purse" "LParoleCards$Purse;", Cond.fieldLink RX2 122 "ParoleCards$Order" "wage" "I", Cond.methodLink RX2 116 yX1_isFinished, Cond.instanceMethod yX1_isFinished, Cond.selects RX1 yX1_isFinished yX1_isFinished, Cond.initialized RX1, Cond.code yX1_isFinished cX1_isFinished 1 (some .boolean), Cond.fieldLink RX1 20 "ParoleCards$Order" "workLeft" "I", Cond.methodLink RX2 125 yX3_partWage, Cond.instanceMethod yX3_partWage, Cond.selects RX3 yX3_partWage yX3_partWage, Cond.initialized RX3, Cond.code yX3_partWage cX3_partWage 5 none, Cond.fieldLink RX3 9 "ParoleCards$Purse" "accounts" "[I", Cond.methodLink RX5 204 yX2_leaveFinishedOrder, Cond.instanceMethod yX2_leaveFinishedOrder, Cond.selects RX2 yX2_leaveFinishedOrder yX2_leaveFinishedOrder, Cond.code yX2_leaveFinishedOrder cX2_leaveFinishedOrder 2 none, Cond.methodLink RX2 86 yX2_leaveOrder, Cond.instanceMethod yX2_leaveOrder, Cond.selects RX2 yX2_leaveOrder yX2_leaveOrder, Cond.code yX2_leaveOrder cX2_leaveOrder 2 none, Cond.fieldLink RX2 102 "ParoleCards$Order" "peopleOnIt" "I"]
def wsL_pass_r3 : List Cond := [Cond.fieldLink RX2 107 "ParoleCards$Order" "tools" "LParoleCards$ToolKind;", Cond.fieldLink RX2 111 "ParoleCards$ToolKind" "countedOut" "I", Cond.methodLink RX5 198 yX5_letGoThoseDue, Cond.instanceMethod yX5_letGoThoseDue, Cond.selects RX5 yX5_letGoThoseDue yX5_letGoThoseDue, Cond.code yX5_letGoThoseDue cX5_letGoThoseDue 6 (some .int), Cond.methodLink RX5 207 yX2_isDue, Cond.instanceMethod yX2_isDue, Cond.selects RX2 yX2_isDue yX2_isDue, Cond.code yX2_isDue cX2_isDue 2 (some .boolean), Cond.fieldLink RX2 43 "ParoleCards$Person" "released" "Z", Cond.methodLink RX2 143 yX2_releaseDay, Cond.instanceMethod yX2_releaseDay, Cond.selects RX2 yX2_releaseDay yX2_releaseDay, Cond.code yX2_releaseDay cX2_releaseDay 1 (some .int), Cond.fieldLink RX2 47 "ParoleCards$Person" "releasedOn" "I", Cond.fieldLink RX2 28 "ParoleCards$Person" "admittedOn" "I", Cond.fieldLink RX2 31 "ParoleCards$Person" "term" "I", Cond.methodLink RX2 54 Lib.Math.min.name, Cond.static Lib.Math.min.name, Cond.initialized "java/lang/Math", Cond.code Lib.Math.min.name Lib.Math.min.code 2 (some .int), Cond.fieldLink RX2 60 "ParoleCards$Person" "lostDays" "I", Cond.methodLink RX2 50 yX2_gainedDays]
def wsL_pass_r4 : List Cond := [Cond.instanceMethod yX2_gainedDays, Cond.selects RX2 yX2_gainedDays yX2_gainedDays, Cond.code yX2_gainedDays cX2_gainedDays 1 (some .int), Cond.fieldLink RX2 40 "ParoleCards$Person" "courseDays" "I", Cond.methodLink RX5 210 yX2_letGo, Cond.instanceMethod yX2_letGo, Cond.selects RX2 yX2_letGo yX2_letGo, Cond.code yX2_letGo cX2_letGo 2 none, Cond.methodLink RX2 146 yX3_payOut, Cond.instanceMethod yX3_payOut, Cond.selects RX3 yX3_payOut yX3_payOut, Cond.code yX3_payOut cX3_payOut 1 none, Cond.fieldLink RX3 26 "ParoleCards$Purse" "paidOutSum" "I"]
def wsL_pass : List Cond := .codeWith yL_pass cL_pass 4 (some .int) [(0, 9, 12, 13)] :: ((wsL_pass_r1 ++ (wsL_pass_r2 ++ (wsL_pass_r3 ++ wsL_pass_r4))) ++ wsX50 ++ wsX20 ++ wsX10 ++ wsX30 ++ wsX40 ++ (vx_atS RX5 231 "java/lang/IllegalArgumentException" ["java/lang/RuntimeException", "java/lang/Exception"]).filter goodWord)
def wsL_law0_r1 : List Cond := [Cond.classLink RL 8 RX5, Cond.instantiable RX5 6, Cond.initialized RX5, Cond.classLink RL 82 RX6, Cond.instantiable RX6 28, Cond.initialized RX6, Cond.arrayClass .long, Cond.methodLink RL 81 yX5_init, Cond.instanceMethod yX5_init, Cond.code yX5_init cX5_init 2 none, Cond.methodLink RX5 1 objectInit, Cond.instanceMethod objectInit, Cond.code objectInit ⟨#[0xb1]⟩ 1 none, Cond.classLink RX5 9 RX2, Cond.fieldLink RX5 11 "ParoleCards" "people" "[LParoleCards$Person;", Cond.classLink RX5 15 RX1, Cond.fieldLink RX5 17 "ParoleCards" "orders" "[LParoleCards$Order;", Cond.classLink RX5 21 RX4, Cond.fieldLink RX5 23 "ParoleCards" "toolKinds" "[LParoleCards$ToolKind;", Cond.instantiable RX4 2, Cond.initialized RX4, Cond.instanceMethod yX4_init, Cond.code yX4_init cX4_init 1 none, Cond.methodLink RX4 1 objectInit]
def wsL_law0_r2 : List Cond := [Cond.methodLink RL 84 yX6_init, Cond.instanceMethod yX6_init, Cond.code yX6_init cX6_init 1 none, Cond.methodLink RX6 1 objectInit, Cond.arrayClass .boolean, Cond.fieldLink RX6 7 "ParoleCardsModel" "isOut" "[Z", Cond.arrayClass .int, Cond.fieldLink RX6 13 "ParoleCardsModel" "since" "[I", Cond.fieldLink RX6 17 "ParoleCardsModel" "term" "[I", Cond.fieldLink RX6 20 "ParoleCardsModel" "skills" "[I", Cond.fieldLink RX6 23 "ParoleCardsModel" "regime" "[I", Cond.fieldLink RX6 26 "ParoleCardsModel" "worked" "[I", Cond.fieldLink RX6 29 "ParoleCardsModel" "gained" "[I", Cond.fieldLink RX6 32 "ParoleCardsModel" "papers" "[I", Cond.fieldLink RX6 35 "ParoleCardsModel" "offences" "[I", Cond.fieldLink RX6 38 "ParoleCardsModel" "on" "[I", Cond.fieldLink RX6 41 "ParoleCardsModel" "released" "[I", Cond.fieldLink RX6 44 "ParoleCardsModel" "paid" "[I", Cond.fieldLink RX6 47 "ParoleCardsModel" "account" "[I", Cond.fieldLink RX6 50 "ParoleCardsModel" "span" "[I", Cond.fieldLink RX6 53 "ParoleCardsModel" "bought" "[I", Cond.fieldLink RX6 56 "ParoleCardsModel" "lost" "[I", Cond.fieldLink RX6 59 "ParoleCardsModel" "lostOn" "[I", Cond.fieldLink RX6 62 "ParoleCardsModel" "isLower" "[Z"]
def wsL_law0_r3 : List Cond := [Cond.fieldLink RX6 65 "ParoleCardsModel" "isAppealed" "[Z", Cond.fieldLink RX6 68 "ParoleCardsModel" "tools" "[I", Cond.fieldLink RX6 71 "ParoleCardsModel" "skill" "[I", Cond.fieldLink RX6 74 "ParoleCardsModel" "kind" "[I", Cond.fieldLink RX6 77 "ParoleCardsModel" "left" "[I", Cond.fieldLink RX6 80 "ParoleCardsModel" "wage" "[I", Cond.methodLink RL 85 yL_admit, Cond.static yL_admit, Cond.initialized RL, Cond.codeWith yL_admit cL_admit 5 (some .int) [(0, 10, 13, 13), (0, 10, 17, 15)], Cond.classLink RL 13 "java/lang/IllegalArgumentException", Cond.classLink RL 15 "java/lang/IllegalStateException", Cond.methodLink RL 7 yX5_admit, Cond.instanceMethod yX5_admit, Cond.selects RX5 yX5_admit yX5_admit, Cond.code yX5_admit cX5_admit 4 (some .int), Cond.classLink RX5 36 "java/lang/IllegalStateException", Cond.initialized "java/lang/IllegalStateException", Cond.fieldLink RX5 32 "ParoleCards" "personCount" "I", Cond.instantiable RX2 14, Cond.initialized RX2, Cond.fieldLink RX5 43 "ParoleCards" "today" "I", Cond.methodLink RX5 28 yX5_checkRange, Cond.static yX5_checkRange]
def wsL_law0_r4 : List Cond := [Cond.code yX5_checkRange cX5_checkRange 3 none, Cond.classLink RX5 227 "java/lang/IllegalArgumentException", Cond.initialized "java/lang/IllegalArgumentException", Cond.methodLink RX5 46 yX2_init, Cond.instanceMethod yX2_init, Cond.code yX2_init cX2_init 4 none, Cond.methodLink RX2 3 objectInit, Cond.fieldLink RX2 9 "ParoleCards$Person" "regimeNow" "I", Cond.classLink RX2 15 RX0, Cond.fieldLink RX2 17 "ParoleCards$Person" "offences" "[LParoleCards$Offence;", Cond.classLink RX2 21 RX3, Cond.instantiable RX3 4, Cond.initialized RX3, Cond.fieldLink RX2 24 "ParoleCards$Person" "purse" "LParoleCards$Purse;", Cond.fieldLink RX2 28 "ParoleCards$Person" "admittedOn" "I", Cond.fieldLink RX2 31 "ParoleCards$Person" "term" "I", Cond.fieldLink RX2 34 "ParoleCards$Person" "skills" "I", Cond.instanceMethod yX3_init, Cond.code yX3_init cX3_init 1 none, Cond.methodLink RX3 3 objectInit, Cond.fieldLink RX3 9 "ParoleCards$Purse" "accounts" "[I", Cond.methodLink RL 90 yX6_admit, Cond.instanceMethod yX6_admit, Cond.selects RX6 yX6_admit yX6_admit]
def wsL_law0_r5 : List Cond := [Cond.code yX6_admit cX6_admit 4 (some .int), Cond.fieldLink RX6 87 "ParoleCardsModel" "people" "I", Cond.fieldLink RX6 101 "ParoleCardsModel" "today" "I", Cond.methodLink RX6 90 yX6_lies, Cond.static yX6_lies, Cond.code yX6_lies cX6_lies 3 (some .boolean), Cond.methodLink RX6 97 yX6_fails, Cond.instanceMethod yX6_fails, Cond.selects RX6 yX6_fails yX6_fails, Cond.code yX6_fails cX6_fails 2 (some .boolean), Cond.fieldLink RX6 83 "ParoleCardsModel" "thrown" "I", Cond.methodLink RL 91 yX6_thrown, Cond.instanceMethod yX6_thrown, Cond.selects RX6 yX6_thrown yX6_thrown, Cond.code yX6_thrown cX6_thrown 1 (some .int), Cond.methodLink RL 95 yL_course, Cond.static yL_course, Cond.codeWith yL_course cL_course 6 (some .int) [(0, 12, 15, 21), (0, 12, 19, 13), (0, 12, 23, 15)], Cond.classLink RL 21 "java/lang/IndexOutOfBoundsException", Cond.methodLink RL 17 yX5_course, Cond.instanceMethod yX5_course, Cond.selects RX5 yX5_course yX5_course, Cond.code yX5_course cX5_course 5 (some .int), Cond.methodLink RX5 48 yX5_findPerson]
def wsL_law0_r6 : List Cond := [Cond.instanceMethod yX5_findPerson, Cond.selects RX5 yX5_findPerson yX5_findPerson, Cond.code yX5_findPerson cX5_findPerson 3 (some (.object "ParoleCards$Person")), Cond.classLink RX5 176 "java/lang/IndexOutOfBoundsException", Cond.initialized "java/lang/IndexOutOfBoundsException", Cond.methodLink RX5 52 yX5_checkSkill, Cond.static yX5_checkSkill, Cond.code yX5_checkSkill cX5_checkSkill 1 none, Cond.methodLink RX5 56 yX5_checkIn, Cond.static yX5_checkIn, Cond.code yX5_checkIn cX5_checkIn 1 none, Cond.fieldLink RX5 88 "ParoleCards$Person" "released" "Z", Cond.methodLink RX5 60 yX2_enterCourse, Cond.instanceMethod yX2_enterCourse, Cond.selects RX2 yX2_enterCourse yX2_enterCourse, Cond.code yX2_enterCourse cX2_enterCourse 3 none, Cond.classLink RX2 73 "java/lang/IllegalStateException", Cond.fieldLink RX2 63 "ParoleCards$Person" "courseCount" "I", Cond.fieldLink RX2 40 "ParoleCards$Person" "courseDays" "I", Cond.methodLink RX2 69 yX2_hasRoomForPaper, Cond.instanceMethod yX2_hasRoomForPaper, Cond.selects RX2 yX2_hasRoomForPaper yX2_hasRoomForPaper, Cond.code yX2_hasRoomForPaper cX2_hasRoomForPaper 1 (some .boolean), Cond.fieldLink RX2 66 "ParoleCards$Person" "offenceCount" "I"]
def wsL_law0_r7 : List Cond := [Cond.methodLink RX2 80 yX2_raiseRegime, Cond.instanceMethod yX2_raiseRegime, Cond.selects RX2 yX2_raiseRegime yX2_raiseRegime, Cond.code yX2_raiseRegime cX2_raiseRegime 1 none, Cond.methodLink RX2 54 Lib.Math.min.name, Cond.static Lib.Math.min.name, Cond.initialized "java/lang/Math", Cond.code Lib.Math.min.name Lib.Math.min.code 2 (some .int), Cond.methodLink RX5 64 yX2_releaseDay, Cond.instanceMethod yX2_releaseDay, Cond.selects RX2 yX2_releaseDay yX2_releaseDay, Cond.code yX2_releaseDay cX2_releaseDay 1 (some .int), Cond.fieldLink RX2 43 "ParoleCards$Person" "released" "Z", Cond.fieldLink RX2 47 "ParoleCards$Person" "releasedOn" "I", Cond.fieldLink RX2 60 "ParoleCards$Person" "lostDays" "I", Cond.methodLink RX2 50 yX2_gainedDays, Cond.instanceMethod yX2_gainedDays, Cond.selects RX2 yX2_gainedDays yX2_gainedDays, Cond.code yX2_gainedDays cX2_gainedDays 1 (some .int), Cond.fieldLink RX2 37 "ParoleCards$Person" "workedDays" "I", Cond.methodLink RL 98 yX6_course, Cond.instanceMethod yX6_course, Cond.selects RX6 yX6_course yX6_course, Cond.code yX6_course cX6_course 5 (some .int)]
def wsL_law0_r8 : List Cond := [Cond.methodLink RX6 111 yX6_isPerson, Cond.instanceMethod yX6_isPerson, Cond.selects RX6 yX6_isPerson yX6_isPerson, Cond.code yX6_isPerson cX6_isPerson 2 (some .boolean), Cond.methodLink RX6 114 yX6_raises, Cond.instanceMethod yX6_raises, Cond.selects RX6 yX6_raises yX6_raises, Cond.code yX6_raises cX6_raises 2 none, Cond.methodLink RX6 118 yX6_releaseOf, Cond.instanceMethod yX6_releaseOf, Cond.selects RX6 yX6_releaseOf yX6_releaseOf, Cond.code yX6_releaseOf cX6_releaseOf 4 (some .int), Cond.methodLink RX6 104 yX6_gains, Cond.instanceMethod yX6_gains, Cond.selects RX6 yX6_gains yX6_gains, Cond.code yX6_gains cX6_gains 2 (some .int), Cond.methodLink RX6 108 yX6_loses, Cond.instanceMethod yX6_loses, Cond.selects RX6 yX6_loses yX6_loses, Cond.code yX6_loses cX6_loses 4 (some .int), Cond.methodLink RL 99 yL_offence, Cond.static yL_offence, Cond.codeWith yL_offence cL_offence 5 (some .int) [(0, 10, 13, 21), (0, 10, 17, 13), (0, 10, 21, 15)], Cond.methodLink RL 23 yX5_offence]
def wsL_law0_r9 : List Cond := [Cond.instanceMethod yX5_offence, Cond.selects RX5 yX5_offence yX5_offence, Cond.code yX5_offence cX5_offence 4 (some .int), Cond.methodLink RX5 68 yX2_enterOffence, Cond.instanceMethod yX2_enterOffence, Cond.selects RX2 yX2_enterOffence yX2_enterOffence, Cond.code yX2_enterOffence cX2_enterOffence 5 (some .int), Cond.instantiable RX0 4, Cond.initialized RX0, Cond.methodLink RX2 83 yX0_init, Cond.instanceMethod yX0_init, Cond.code yX0_init cX0_init 4 none, Cond.methodLink RX0 3 objectInit, Cond.fieldLink RX0 9 "ParoleCards$Offence" "day" "I", Cond.fieldLink RX0 15 "ParoleCards$Offence" "days" "I", Cond.fieldLink RX0 18 "ParoleCards$Offence" "loweredRegime" "Z", Cond.methodLink RX2 86 yX2_leaveOrder, Cond.instanceMethod yX2_leaveOrder, Cond.selects RX2 yX2_leaveOrder yX2_leaveOrder, Cond.code yX2_leaveOrder cX2_leaveOrder 2 none, Cond.fieldLink RX2 98 "ParoleCards$Person" "order" "LParoleCards$Order;", Cond.fieldLink RX2 102 "ParoleCards$Order" "peopleOnIt" "I", Cond.fieldLink RX2 107 "ParoleCards$Order" "tools" "LParoleCards$ToolKind;", Cond.fieldLink RX2 111 "ParoleCards$ToolKind" "countedOut" "I"]
def wsL_law0_r10 : List Cond := [Cond.methodLink RL 101 yX6_offence, Cond.instanceMethod yX6_offence, Cond.selects RX6 yX6_offence yX6_offence, Cond.code yX6_offence cX6_offence 4 (some .int), Cond.methodLink RL 102 yL_appeal, Cond.static yL_appeal, Cond.codeWith yL_appeal cL_appeal 5 (some .int) [(0, 10, 13, 21), (0, 10, 17, 15)], Cond.methodLink RL 26 yX5_appeal, Cond.instanceMethod yX5_appeal, Cond.selects RX5 yX5_appeal yX5_appeal, Cond.code yX5_appeal cX5_appeal 5 (some .int), Cond.fieldLink RX5 76 "ParoleCards$Offence" "appealed" "Z", Cond.methodLink RX5 72 yX5_findOffence, Cond.static yX5_findOffence, Cond.code yX5_findOffence cX5_findOffence 3 (some (.object "ParoleCards$Offence")), Cond.fieldLink RX5 215 "ParoleCards$Person" "offences" "[LParoleCards$Offence;", Cond.methodLink RX5 84 yX2_appealOffence, Cond.instanceMethod yX2_appealOffence, Cond.selects RX2 yX2_appealOffence yX2_appealOffence, Cond.code yX2_appealOffence cX2_appealOffence 2 none, Cond.fieldLink RX2 89 "ParoleCards$Offence" "appealed" "Z", Cond.fieldLink RX2 92 "ParoleCards$Offence" "days" "I", Cond.fieldLink RX2 95 "ParoleCards$Offence" "loweredRegime" "Z", Cond.methodLink RL 104 yX6_appeal]
def wsL_law0_r11 : List Cond := [Cond.instanceMethod yX6_appeal, Cond.selects RX6 yX6_appeal yX6_appeal, Cond.code yX6_appeal cX6_appeal 5 (some .int), Cond.methodLink RL 105 yL_release, Cond.static yL_release, Cond.codeWith yL_release cL_release 4 (some .int) [(0, 9, 12, 21)], Cond.methodLink RL 29 yX5_release, Cond.instanceMethod yX5_release, Cond.selects RX5 yX5_release yX5_release, Cond.code yX5_release cX5_release 2 (some .int), Cond.methodLink RL 108 yX6_release, Cond.instanceMethod yX6_release, Cond.selects RX6 yX6_release yX6_release, Cond.code yX6_release cX6_release 2 (some .int), Cond.methodLink RL 109 yL_isIn, Cond.static yL_isIn, Cond.codeWith yL_isIn cL_isIn 4 (some .int) [(0, 16, 19, 21)], Cond.methodLink RL 33 yX5_isIn, Cond.instanceMethod yX5_isIn, Cond.selects RX5 yX5_isIn yX5_isIn, Cond.code yX5_isIn cX5_isIn 2 (some .boolean), Cond.methodLink RL 111 yX6_isIn, Cond.instanceMethod yX6_isIn, Cond.selects RX6 yX6_isIn yX6_isIn]
def wsL_law0_r12 : List Cond := [Cond.code yX6_isIn cX6_isIn 2 (some .boolean), Cond.methodLink RL 112 yL_regime, Cond.static yL_regime, Cond.codeWith yL_regime cL_regime 4 (some .int) [(0, 9, 12, 21)], Cond.methodLink RL 37 yX5_regime, Cond.instanceMethod yX5_regime, Cond.selects RX5 yX5_regime yX5_regime, Cond.code yX5_regime cX5_regime 2 (some .int), Cond.fieldLink RX5 91 "ParoleCards$Person" "regimeNow" "I", Cond.methodLink RL 114 yX6_regime, Cond.instanceMethod yX6_regime, Cond.selects RX6 yX6_regime yX6_regime, Cond.code yX6_regime cX6_regime 2 (some .int), Cond.methodLink RX6 121 yX6_of, Cond.instanceMethod yX6_of, Cond.selects RX6 yX6_of yX6_of, Cond.code yX6_of cX6_of 3 (some .int), Cond.methodLink RL 115 yL_papers, Cond.static yL_papers, Cond.codeWith yL_papers cL_papers 5 (some .int) [(0, 10, 13, 21)], Cond.methodLink RL 40 yX5_papers, Cond.instanceMethod yX5_papers, Cond.selects RX5 yX5_papers yX5_papers, Cond.code yX5_papers cX5_papers 4 (some .int)]
def wsL_law0_r13 : List Cond := [Cond.fieldLink RX5 94 "ParoleCards$Person" "lostDays" "I", Cond.methodLink RX5 97 yX2_gainedDays, Cond.methodLink RL 118 yX6_papers, Cond.instanceMethod yX6_papers, Cond.selects RX6 yX6_papers yX6_papers, Cond.code yX6_papers cX6_papers 3 (some .int), Cond.methodLink RL 119 yL_setTools, Cond.static yL_setTools, Cond.codeWith yL_setTools cL_setTools 5 (some .int) [(0, 10, 13, 21), (0, 10, 17, 13), (0, 10, 21, 15)], Cond.methodLink RL 44 yX5_setTools, Cond.instanceMethod yX5_setTools, Cond.selects RX5 yX5_setTools yX5_setTools, Cond.code yX5_setTools cX5_setTools 5 (some .int), Cond.fieldLink RX5 104 "ParoleCards$ToolKind" "countedOut" "I", Cond.fieldLink RX5 109 "ParoleCards$ToolKind" "count" "I", Cond.methodLink RX5 100 yX5_findTools, Cond.instanceMethod yX5_findTools, Cond.selects RX5 yX5_findTools yX5_findTools, Cond.code yX5_findTools cX5_findTools 3 (some (.object "ParoleCards$ToolKind")), Cond.methodLink RL 121 yX6_setTools, Cond.instanceMethod yX6_setTools, Cond.selects RX6 yX6_setTools yX6_setTools, Cond.code yX6_setTools cX6_setTools 4 (some .int), Cond.methodLink RX6 125 yX6_isKind]
def wsL_law0_r14 : List Cond := [Cond.static yX6_isKind, Cond.code yX6_isKind cX6_isKind 1 (some .boolean), Cond.methodLink RX6 128 yX6_out, Cond.instanceMethod yX6_out, Cond.selects RX6 yX6_out yX6_out, Cond.code yX6_out cX6_out 4 (some .int), Cond.methodLink RL 122 yL_toolsOut, Cond.static yL_toolsOut, Cond.codeWith yL_toolsOut cL_toolsOut 4 (some .int) [(0, 9, 12, 21)], Cond.methodLink RL 47 yX5_toolsOut, Cond.instanceMethod yX5_toolsOut, Cond.selects RX5 yX5_toolsOut yX5_toolsOut, Cond.code yX5_toolsOut cX5_toolsOut 2 (some .int), Cond.methodLink RL 124 yX6_toolsOut, Cond.instanceMethod yX6_toolsOut, Cond.selects RX6 yX6_toolsOut yX6_toolsOut, Cond.code yX6_toolsOut cX6_toolsOut 2 (some .int), Cond.methodLink RL 125 yL_addOrder, Cond.static yL_addOrder, Cond.codeWith yL_addOrder cL_addOrder 7 (some .int) [(0, 14, 17, 21), (0, 14, 21, 13), (0, 14, 25, 15)], Cond.methodLink RL 50 yX5_addOrder, Cond.instanceMethod yX5_addOrder, Cond.selects RX5 yX5_addOrder yX5_addOrder, Cond.code yX5_addOrder cX5_addOrder 7 (some .int)]
def wsL_law0_r15 : List Cond := [Cond.fieldLink RX5 112 "ParoleCards" "orderCount" "I", Cond.instantiable RX1 6, Cond.initialized RX1, Cond.methodLink RX5 117 yX1_init, Cond.instanceMethod yX1_init, Cond.code yX1_init cX1_init 6 none, Cond.methodLink RX1 1 objectInit, Cond.fieldLink RX1 7 "ParoleCards$Order" "number" "I", Cond.fieldLink RX1 13 "ParoleCards$Order" "skill" "I", Cond.fieldLink RX1 16 "ParoleCards$Order" "tools" "LParoleCards$ToolKind;", Cond.fieldLink RX1 20 "ParoleCards$Order" "workLeft" "I", Cond.fieldLink RX1 23 "ParoleCards$Order" "wage" "I", Cond.methodLink RL 128 yX6_addOrder, Cond.instanceMethod yX6_addOrder, Cond.selects RX6 yX6_addOrder yX6_addOrder, Cond.code yX6_addOrder cX6_addOrder 7 (some .int), Cond.fieldLink RX6 94 "ParoleCardsModel" "orders" "I", Cond.methodLink RL 129 yL_assign, Cond.static yL_assign, Cond.codeWith yL_assign cL_assign 5 (some .int) [(0, 10, 13, 21), (0, 10, 17, 15)], Cond.methodLink RL 54 yX5_assign, Cond.instanceMethod yX5_assign, Cond.selects RX5 yX5_assign yX5_assign, Cond.code yX5_assign cX5_assign 5 (some .int)]
def wsL_law0_r16 : List Cond := [Cond.fieldLink RX5 124 "ParoleCards$Person" "order" "LParoleCards$Order;", Cond.fieldLink RX5 130 "ParoleCards$Order" "skill" "I", Cond.fieldLink RX5 152 "ParoleCards$Order" "peopleOnIt" "I", Cond.methodLink RX5 120 yX5_findOrder, Cond.instanceMethod yX5_findOrder, Cond.selects RX5 yX5_findOrder yX5_findOrder, Cond.code yX5_findOrder cX5_findOrder 3 (some (.object "ParoleCards$Order")), Cond.methodLink RX5 133 yX2_hasSkill, Cond.instanceMethod yX2_hasSkill, Cond.selects RX2 yX2_hasSkill yX2_hasSkill, Cond.code yX2_hasSkill cX2_hasSkill 2 (some .boolean), Cond.methodLink RX5 139 yX1_isFinished, Cond.instanceMethod yX1_isFinished, Cond.selects RX1 yX1_isFinished yX1_isFinished, Cond.code yX1_isFinished cX1_isFinished 1 (some .boolean), Cond.methodLink RX5 143 yX1_hasFreeTool, Cond.instanceMethod yX1_hasFreeTool, Cond.selects RX1 yX1_hasFreeTool yX1_hasFreeTool, Cond.code yX1_hasFreeTool cX1_hasFreeTool 1 (some .boolean), Cond.fieldLink RX1 26 "ParoleCards$ToolKind" "countedOut" "I", Cond.fieldLink RX1 31 "ParoleCards$ToolKind" "count" "I", Cond.methodLink RX5 148 yX2_joinOrder, Cond.instanceMethod yX2_joinOrder, Cond.selects RX2 yX2_joinOrder yX2_joinOrder]
def wsL_law0_r17 : List Cond := [Cond.code yX2_joinOrder cX2_joinOrder 2 none, Cond.methodLink RL 131 yX6_assign, Cond.instanceMethod yX6_assign, Cond.selects RX6 yX6_assign yX6_assign, Cond.code yX6_assign cX6_assign 7 (some .int), Cond.methodLink RX6 131 yX6_isOrder, Cond.instanceMethod yX6_isOrder, Cond.selects RX6 yX6_isOrder yX6_isOrder, Cond.code yX6_isOrder cX6_isOrder 2 (some .boolean), Cond.methodLink RL 132 yL_takeOff, Cond.static yL_takeOff, Cond.codeWith yL_takeOff cL_takeOff 4 (some .int) [(0, 9, 12, 21), (0, 9, 15, 15)], Cond.methodLink RL 57 yX5_takeOff, Cond.instanceMethod yX5_takeOff, Cond.selects RX5 yX5_takeOff yX5_takeOff, Cond.code yX5_takeOff cX5_takeOff 4 (some .int), Cond.fieldLink RX5 160 "ParoleCards$Order" "number" "I", Cond.methodLink RX5 157 yX2_leaveOrder, Cond.methodLink RL 134 yX6_takeOff, Cond.instanceMethod yX6_takeOff, Cond.selects RX6 yX6_takeOff yX6_takeOff, Cond.code yX6_takeOff cX6_takeOff 4 (some .int), Cond.methodLink RL 135 yL_orderOf, Cond.static yL_orderOf]
def wsL_law0_r18 : List Cond := [Cond.codeWith yL_orderOf cL_orderOf 4 (some .int) [(0, 9, 12, 21)], Cond.methodLink RL 60 yX5_orderOf, Cond.instanceMethod yX5_orderOf, Cond.selects RX5 yX5_orderOf yX5_orderOf, Cond.code yX5_orderOf cX5_orderOf 3 (some .int), Cond.methodLink RL 137 yX6_orderOf, Cond.instanceMethod yX6_orderOf, Cond.selects RX6 yX6_orderOf yX6_orderOf, Cond.code yX6_orderOf cX6_orderOf 2 (some .int), Cond.methodLink RL 138 yL_left, Cond.static yL_left, Cond.codeWith yL_left cL_left 4 (some .int) [(0, 9, 12, 21)], Cond.methodLink RL 63 yX5_left, Cond.instanceMethod yX5_left, Cond.selects RX5 yX5_left yX5_left, Cond.code yX5_left cX5_left 2 (some .int), Cond.fieldLink RX5 163 "ParoleCards$Order" "workLeft" "I", Cond.methodLink RL 140 yX6_left, Cond.instanceMethod yX6_left, Cond.selects RX6 yX6_left yX6_left, Cond.code yX6_left cX6_left 2 (some .int), Cond.methodLink RL 141 yL_account, Cond.static yL_account, Cond.codeWith yL_account cL_account 5 (some .int) [(0, 10, 13, 21)]]
def wsL_law0_r19 : List Cond := [Cond.methodLink RL 66 yX5_account, Cond.instanceMethod yX5_account, Cond.selects RX5 yX5_account yX5_account, Cond.code yX5_account cX5_account 4 (some .int), Cond.fieldLink RX5 166 "ParoleCards$Person" "purse" "LParoleCards$Purse;", Cond.fieldLink RX5 170 "ParoleCards$Purse" "accounts" "[I", Cond.methodLink RL 143 yX6_account, Cond.instanceMethod yX6_account, Cond.selects RX6 yX6_account yX6_account, Cond.code yX6_account cX6_account 4 (some .int), Cond.methodLink RL 144 yL_buy, Cond.static yL_buy, Cond.codeWith yL_buy cL_buy 5 (some .int) [(0, 10, 13, 21), (0, 10, 17, 13), (0, 10, 21, 15)], Cond.methodLink RL 69 yX5_buy, Cond.instanceMethod yX5_buy, Cond.selects RX5 yX5_buy yX5_buy, Cond.code yX5_buy cX5_buy 5 (some .int), Cond.methodLink RX5 183 yX2_mayStillBuy, Cond.instanceMethod yX2_mayStillBuy, Cond.selects RX2 yX2_mayStillBuy yX2_mayStillBuy, Cond.code yX2_mayStillBuy cX2_mayStillBuy 2 (some .int), Cond.methodLink RX2 133 Lib.Math.max.name, Cond.static Lib.Math.max.name, Cond.code Lib.Math.max.name Lib.Math.max.code 2 (some .int)]
def wsL_law0_r20 : List Cond := [Cond.methodLink RX2 136 yX2_limitOfSpan, Cond.instanceMethod yX2_limitOfSpan, Cond.selects RX2 yX2_limitOfSpan yX2_limitOfSpan, Cond.code yX2_limitOfSpan cX2_limitOfSpan 7 (some .int), Cond.methodLink RX2 129 yX0_lowersLimitOn, Cond.instanceMethod yX0_lowersLimitOn, Cond.selects RX0 yX0_lowersLimitOn yX0_lowersLimitOn, Cond.code yX0_lowersLimitOn cX0_lowersLimitOn 2 (some .boolean), Cond.fieldLink RX0 22 "ParoleCards$Offence" "appealed" "Z", Cond.methodLink RX2 140 yX3_boughtInSpan, Cond.instanceMethod yX3_boughtInSpan, Cond.selects RX3 yX3_boughtInSpan yX3_boughtInSpan, Cond.code yX3_boughtInSpan cX3_boughtInSpan 2 (some .int), Cond.fieldLink RX3 15 "ParoleCards$Purse" "lastSpan" "I", Cond.fieldLink RX3 19 "ParoleCards$Purse" "boughtInLastSpan" "I", Cond.methodLink RX5 189 yX3_spend, Cond.instanceMethod yX3_spend, Cond.selects RX3 yX3_spend yX3_spend, Cond.code yX3_spend cX3_spend 3 none, Cond.methodLink RX3 22 yX3_boughtInSpan, Cond.methodLink RL 146 yX6_buy, Cond.instanceMethod yX6_buy, Cond.selects RX6 yX6_buy yX6_buy, Cond.code yX6_buy cX6_buy 6 (some .int)]
def wsL_law0_r21 : List Cond := [Cond.methodLink RX6 134 yX6_rest, Cond.instanceMethod yX6_rest, Cond.selects RX6 yX6_rest yX6_rest, Cond.code yX6_rest cX6_rest 4 (some .int), Cond.methodLink RL 147 yL_limit, Cond.static yL_limit, Cond.codeWith yL_limit cL_limit 4 (some .int) [(0, 9, 12, 21)], Cond.methodLink RL 72 yX5_limit, Cond.instanceMethod yX5_limit, Cond.selects RX5 yX5_limit yX5_limit, Cond.code yX5_limit cX5_limit 2 (some .int), Cond.methodLink RL 149 yX6_limit, Cond.instanceMethod yX6_limit, Cond.selects RX6 yX6_limit yX6_limit, Cond.code yX6_limit cX6_limit 2 (some .int), Cond.methodLink RL 150 yL_paidOut, Cond.static yL_paidOut, Cond.codeWith yL_paidOut cL_paidOut 4 (some .int) [(0, 9, 12, 21)], Cond.methodLink RL 75 yX5_paidOut, Cond.instanceMethod yX5_paidOut, Cond.selects RX5 yX5_paidOut yX5_paidOut, Cond.code yX5_paidOut cX5_paidOut 2 (some .int), Cond.fieldLink RX5 192 "ParoleCards$Purse" "paidOutSum" "I", Cond.methodLink RL 152 yX6_paidOut]
def wsL_law0_r22 : List Cond := [Cond.instanceMethod yX6_paidOut, Cond.selects RX6 yX6_paidOut yX6_paidOut, Cond.code yX6_paidOut cX6_paidOut 2 (some .int), Cond.methodLink RL 153 yL_pass, Cond.static yL_pass, Cond.codeWith yL_pass cL_pass 4 (some .int) [(0, 9, 12, 13)], Cond.methodLink RL 78 yX5_pass, Cond.instanceMethod yX5_pass, Cond.selects RX5 yX5_pass yX5_pass, Cond.code yX5_pass cX5_pass 4 (some .int), Cond.methodLink RX5 195 yX5_workInTheShop, Cond.instanceMethod yX5_workInTheShop, Cond.selects RX5 yX5_workInTheShop yX5_workInTheShop, Cond.code yX5_workInTheShop cX5_workInTheShop 5 none, Cond.methodLink RX5 201 yX2_workOneDay, Cond.instanceMethod yX2_workOneDay, Cond.selects RX2 yX2_workOneDay yX2_workOneDay, Cond.code yX2_workOneDay cX2_workOneDay 2 none, Cond.fieldLink RX2 119 "ParoleCards$Order" "workLeft" "I", Cond.fieldLink RX2 122 "ParoleCards$Order" "wage" "I", Cond.methodLink RX2 116 yX1_isFinished, Cond.methodLink RX2 125 yX3_partWage, Cond.instanceMethod yX3_partWage, Cond.selects RX3 yX3_partWage yX3_partWage]
def wsL_law0_r23 : List Cond := [Cond.code yX3_partWage cX3_partWage 5 none, Cond.methodLink RX5 204 yX2_leaveFinishedOrder, Cond.instanceMethod yX2_leaveFinishedOrder, Cond.selects RX2 yX2_leaveFinishedOrder yX2_leaveFinishedOrder, Cond.code yX2_leaveFinishedOrder cX2_leaveFinishedOrder 2 none, Cond.methodLink RX5 198 yX5_letGoThoseDue, Cond.instanceMethod yX5_letGoThoseDue, Cond.selects RX5 yX5_letGoThoseDue yX5_letGoThoseDue, Cond.code yX5_letGoThoseDue cX5_letGoThoseDue 6 (some .int), Cond.methodLink RX5 207 yX2_isDue, Cond.instanceMethod yX2_isDue, Cond.selects RX2 yX2_isDue yX2_isDue, Cond.code yX2_isDue cX2_isDue 2 (some .boolean), Cond.methodLink RX2 143 yX2_releaseDay, Cond.methodLink RX5 210 yX2_letGo, Cond.instanceMethod yX2_letGo, Cond.selects RX2 yX2_letGo yX2_letGo, Cond.code yX2_letGo cX2_letGo 2 none, Cond.methodLink RX2 146 yX3_payOut, Cond.instanceMethod yX3_payOut, Cond.selects RX3 yX3_payOut yX3_payOut, Cond.code yX3_payOut cX3_payOut 1 none, Cond.fieldLink RX3 26 "ParoleCards$Purse" "paidOutSum" "I", Cond.methodLink RL 155 yX6_pass]
def wsL_law0_r24 : List Cond := [Cond.instanceMethod yX6_pass, Cond.selects RX6 yX6_pass yX6_pass, Cond.code yX6_pass cX6_pass 5 (some .int), Cond.methodLink RX6 137 yX6_works, Cond.instanceMethod yX6_works, Cond.selects RX6 yX6_works yX6_works, Cond.code yX6_works cX6_works 5 none, Cond.methodLink RX6 140 yX6_goes, Cond.instanceMethod yX6_goes, Cond.selects RX6 yX6_goes yX6_goes, Cond.code yX6_goes cX6_goes 2 (some .int)]
def wsL_law0 : List Cond := (wsL_law0_r1 ++ (wsL_law0_r2 ++ (wsL_law0_r3 ++ (wsL_law0_r4 ++ (wsL_law0_r5 ++ (wsL_law0_r6 ++ (wsL_law0_r7 ++ (wsL_law0_r8 ++ (wsL_law0_r9 ++ (wsL_law0_r10 ++ (wsL_law0_r11 ++ (wsL_law0_r12 ++ (wsL_law0_r13 ++ (wsL_law0_r14 ++ (wsL_law0_r15 ++ (wsL_law0_r16 ++ (wsL_law0_r17 ++ (wsL_law0_r18 ++ (wsL_law0_r19 ++ (wsL_law0_r20 ++ (wsL_law0_r21 ++ (wsL_law0_r22 ++ (wsL_law0_r23 ++ wsL_law0_r24))))))))))))))))))))))) ++ wsX50 ++ wsX60 ++ wsX40 ++ wsX20 ++ wsX30 ++ wsX00 ++ wsX10 ++ ([] : List Cond)
def wsL_law : List Cond := wsL_law0 ++ (vx_atS RX5 40 "java/lang/IllegalStateException" ["java/lang/RuntimeException", "java/lang/Exception"]).filter goodWord ++ (vx_atS RX5 231 "java/lang/IllegalArgumentException" ["java/lang/RuntimeException", "java/lang/Exception"]).filter goodWord ++ (vx_atS RX5 180 "java/lang/IndexOutOfBoundsException" ["java/lang/RuntimeException", "java/lang/Exception"]).filter goodWord ++ (vx_atS RX2 77 "java/lang/IllegalStateException" ["java/lang/RuntimeException", "java/lang/Exception"]).filter goodWord
end
section
/-! The printed row wsL_law_in0 (one decision over all the law's words) runs out of memory in a light round: here it is cut into the printed chunks. -/
set_option maxRecDepth 20000 in
theorem wsL_law_c1 : ∀ w ∈ wsL_law0_r1, w ∈ lw_tbl := fun w h => (goodIn_p wsL_law0_r1 [37, 40, 50] (by decide +kernel) (by decide +kernel) w h).1
set_option maxRecDepth 20000 in
theorem wsL_law_c2 : ∀ w ∈ wsL_law0_r2, w ∈ lw_tbl := fun w h => (goodIn_p wsL_law0_r2 [612] (by decide +kernel) (by decide +kernel) w h).1
set_option maxRecDepth 20000 in
theorem wsL_law_c3 : ∀ w ∈ wsL_law0_r3, w ∈ lw_tbl := fun w h => (goodIn_p wsL_law0_r3 [89] (by decide +kernel) (by decide +kernel) w h).1
set_option maxRecDepth 20000 in
theorem wsL_law_c4 : ∀ w ∈ wsL_law0_r4, w ∈ lw_tbl := fun w h => (goodIn_p wsL_law0_r4 [92, 180, 188] (by decide +kernel) (by decide +kernel) w h).1
set_option maxRecDepth 20000 in
theorem wsL_law_c5 : ∀ w ∈ wsL_law0_r5, w ∈ lw_tbl := fun w h => (goodIn_p wsL_law0_r5 [707, 710, 714, 703, 262] (by decide +kernel) (by decide +kernel) w h).1
set_option maxRecDepth 20000 in
theorem wsL_law_c6 : ∀ w ∈ wsL_law0_r6, w ∈ lw_tbl := fun w h => (goodIn_p wsL_law0_r6 [266, 285, 289, 294, 298] (by decide +kernel) (by decide +kernel) w h).1
set_option maxRecDepth 20000 in
theorem wsL_law_c7 : ∀ w ∈ wsL_law0_r7, w ∈ lw_tbl := fun w h => (goodIn_p wsL_law0_r7 [305, 308, 312, 316, 718] (by decide +kernel) (by decide +kernel) w h).1
set_option maxRecDepth 20000 in
theorem wsL_law_c8 : ∀ w ∈ wsL_law0_r8, w ∈ lw_tbl := fun w h => (goodIn_p wsL_law0_r8 [722, 726, 730, 734, 738] (by decide +kernel) (by decide +kernel) w h).1
set_option maxRecDepth 20000 in
theorem wsL_law_c9 : ∀ w ∈ wsL_law0_r9, w ∈ lw_tbl := fun w h => (goodIn_p wsL_law0_r9 [323, 327, 331, 353] (by decide +kernel) (by decide +kernel) w h).1
set_option maxRecDepth 20000 in
theorem wsL_law_c10 : ∀ w ∈ wsL_law0_r10, w ∈ lw_tbl := fun w h => (goodIn_p wsL_law0_r10 [742, 360, 363, 369] (by decide +kernel) (by decide +kernel) w h).1
set_option maxRecDepth 20000 in
theorem wsL_law_c11 : ∀ w ∈ wsL_law0_r11, w ∈ lw_tbl := fun w h => (goodIn_p wsL_law0_r11 [746, 376, 750, 383] (by decide +kernel) (by decide +kernel) w h).1
set_option maxRecDepth 20000 in
theorem wsL_law_c12 : ∀ w ∈ wsL_law0_r12, w ∈ lw_tbl := fun w h => (goodIn_p wsL_law0_r12 [754, 390, 758, 762, 397] (by decide +kernel) (by decide +kernel) w h).1
set_option maxRecDepth 20000 in
theorem wsL_law_c13 : ∀ w ∈ wsL_law0_r13, w ∈ lw_tbl := fun w h => (goodIn_p wsL_law0_r13 [766, 405, 409, 770] (by decide +kernel) (by decide +kernel) w h).1
set_option maxRecDepth 20000 in
theorem wsL_law_c14 : ∀ w ∈ wsL_law0_r14, w ∈ lw_tbl := fun w h => (goodIn_p wsL_law0_r14 [773, 777, 418, 781, 425] (by decide +kernel) (by decide +kernel) w h).1
set_option maxRecDepth 20000 in
theorem wsL_law_c15 : ∀ w ∈ wsL_law0_r15, w ∈ lw_tbl := fun w h => (goodIn_p wsL_law0_r15 [430, 785, 464] (by decide +kernel) (by decide +kernel) w h).1
set_option maxRecDepth 20000 in
theorem wsL_law_c16 : ∀ w ∈ wsL_law0_r16, w ∈ lw_tbl := fun w h => (goodIn_p wsL_law0_r16 [468, 474, 479, 483] (by decide +kernel) (by decide +kernel) w h).1
set_option maxRecDepth 20000 in
theorem wsL_law_c17 : ∀ w ∈ wsL_law0_r17, w ∈ lw_tbl := fun w h => (goodIn_p wsL_law0_r17 [488, 789, 793, 495, 797] (by decide +kernel) (by decide +kernel) w h).1
set_option maxRecDepth 20000 in
theorem wsL_law_c18 : ∀ w ∈ wsL_law0_r18, w ∈ lw_tbl := fun w h => (goodIn_p wsL_law0_r18 [504, 801, 511, 805] (by decide +kernel) (by decide +kernel) w h).1
set_option maxRecDepth 20000 in
theorem wsL_law_c19 : ∀ w ∈ wsL_law0_r19, w ∈ lw_tbl := fun w h => (goodIn_p wsL_law0_r19 [518, 809, 526, 531, 542] (by decide +kernel) (by decide +kernel) w h).1
set_option maxRecDepth 20000 in
theorem wsL_law_c20 : ∀ w ∈ wsL_law0_r20, w ∈ lw_tbl := fun w h => (goodIn_p wsL_law0_r20 [535, 539, 546, 551, 813] (by decide +kernel) (by decide +kernel) w h).1
set_option maxRecDepth 20000 in
theorem wsL_law_c21 : ∀ w ∈ wsL_law0_r21, w ∈ lw_tbl := fun w h => (goodIn_p wsL_law0_r21 [817, 559, 821, 566] (by decide +kernel) (by decide +kernel) w h).1
set_option maxRecDepth 20000 in
theorem wsL_law_c22 : ∀ w ∈ wsL_law0_r22, w ∈ lw_tbl := fun w h => (goodIn_p wsL_law0_r22 [825, 573, 577, 581] (by decide +kernel) (by decide +kernel) w h).1
set_option maxRecDepth 20000 in
theorem wsL_law_c23 : ∀ w ∈ wsL_law0_r23, w ∈ lw_tbl := fun w h => (goodIn_p wsL_law0_r23 [586, 590, 594, 598, 603, 607] (by decide +kernel) (by decide +kernel) w h).1
set_option maxRecDepth 20000 in
theorem wsL_law_c24 : ∀ w ∈ wsL_law0_r24, w ∈ lw_tbl := fun w h => (goodIn_p wsL_law0_r24 [829, 833, 837] (by decide +kernel) (by decide +kernel) w h).1
set_option maxRecDepth 20000 in
theorem wsL_law_d5 : ∀ w ∈ wsX50, w ∈ lw_tbl := fun w h => (goodIn_p wsX50 [] (by decide +kernel) (by decide +kernel) w h).1
set_option maxRecDepth 20000 in
theorem wsL_law_d6 : ∀ w ∈ wsX60, w ∈ lw_tbl := fun w h => (goodIn_p wsX60 [] (by decide +kernel) (by decide +kernel) w h).1
set_option maxRecDepth 20000 in
theorem wsL_law_d4 : ∀ w ∈ wsX40, w ∈ lw_tbl := fun w h => (goodIn_p wsX40 [] (by decide +kernel) (by decide +kernel) w h).1
set_option maxRecDepth 20000 in
theorem wsL_law_d2 : ∀ w ∈ wsX20, w ∈ lw_tbl := fun w h => (goodIn_p wsX20 [] (by decide +kernel) (by decide +kernel) w h).1
set_option maxRecDepth 20000 in
theorem wsL_law_d3 : ∀ w ∈ wsX30, w ∈ lw_tbl := fun w h => (goodIn_p wsX30 [] (by decide +kernel) (by decide +kernel) w h).1
set_option maxRecDepth 20000 in
theorem wsL_law_d0 : ∀ w ∈ wsX00, w ∈ lw_tbl := fun w h => (goodIn_p wsX00 [] (by decide +kernel) (by decide +kernel) w h).1
set_option maxRecDepth 20000 in
theorem wsL_law_d1 : ∀ w ∈ wsX10, w ∈ lw_tbl := fun w h => (goodIn_p wsX10 [] (by decide +kernel) (by decide +kernel) w h).1
theorem wsL_law_in0 : ∀ w ∈ wsL_law0, w ∈ lw_tbl := fun w h => (List.mem_append.mp h).elim (fun h => ((List.mem_append.mp h).elim (fun h => ((List.mem_append.mp h).elim (fun h => ((List.mem_append.mp h).elim (fun h => ((List.mem_append.mp h).elim (fun h => ((List.mem_append.mp h).elim (fun h => ((List.mem_append.mp h).elim (fun h => ((List.mem_append.mp h).elim (fun h => ((List.mem_append.mp h).elim (wsL_law_c1 w) (fun h => (List.mem_append.mp h).elim (wsL_law_c2 w) (fun h => (List.mem_append.mp h).elim (wsL_law_c3 w) (fun h => (List.mem_append.mp h).elim (wsL_law_c4 w) (fun h => (List.mem_append.mp h).elim (wsL_law_c5 w) (fun h => (List.mem_append.mp h).elim (wsL_law_c6 w) (fun h => (List.mem_append.mp h).elim (wsL_law_c7 w) (fun h => (List.mem_append.mp h).elim (wsL_law_c8 w) (fun h => (List.mem_append.mp h).elim (wsL_law_c9 w) (fun h => (List.mem_append.mp h).elim (wsL_law_c10 w) (fun h => (List.mem_append.mp h).elim (wsL_law_c11 w) (fun h => (List.mem_append.mp h).elim (wsL_law_c12 w) (fun h => (List.mem_append.mp h).elim (wsL_law_c13 w) (fun h => (List.mem_append.mp h).elim (wsL_law_c14 w) (fun h => (List.mem_append.mp h).elim (wsL_law_c15 w) (fun h => (List.mem_append.mp h).elim (wsL_law_c16 w) (fun h => (List.mem_append.mp h).elim (wsL_law_c17 w) (fun h => (List.mem_append.mp h).elim (wsL_law_c18 w) (fun h => (List.mem_append.mp h).elim (wsL_law_c19 w) (fun h => (List.mem_append.mp h).elim (wsL_law_c20 w) (fun h => (List.mem_append.mp h).elim (wsL_law_c21 w) (fun h => (List.mem_append.mp h).elim (wsL_law_c22 w) (fun h => (List.mem_append.mp h).elim (wsL_law_c23 w) (fun h => wsL_law_c24 w h))))))))))))))))))))))))) (wsL_law_d5 w))) (wsL_law_d6 w))) (wsL_law_d4 w))) (wsL_law_d2 w))) (wsL_law_d3 w))) (wsL_law_d0 w))) (wsL_law_d1 w))) (fun h => absurd h List.not_mem_nil)
theorem wsL_law_x0 : ∀ w ∈ (vx_atS RX5 40 "java/lang/IllegalStateException" ["java/lang/RuntimeException", "java/lang/Exception"]).filter goodWord, w ∈ lw_tbl := by decide +kernel
theorem wsL_law_x1 : ∀ w ∈ (vx_atS RX5 231 "java/lang/IllegalArgumentException" ["java/lang/RuntimeException", "java/lang/Exception"]).filter goodWord, w ∈ lw_tbl := by decide +kernel
theorem wsL_law_x2 : ∀ w ∈ (vx_atS RX5 180 "java/lang/IndexOutOfBoundsException" ["java/lang/RuntimeException", "java/lang/Exception"]).filter goodWord, w ∈ lw_tbl := by decide +kernel
theorem wsL_law_x3 : ∀ w ∈ (vx_atS RX2 77 "java/lang/IllegalStateException" ["java/lang/RuntimeException", "java/lang/Exception"]).filter goodWord, w ∈ lw_tbl := by decide +kernel
theorem wsL_law_in : ∀ w ∈ wsL_law, w ∈ lw_tbl := fun w h => (List.mem_append.mp h).elim (fun h => (List.mem_append.mp h).elim (fun h => (List.mem_append.mp h).elim (fun h => (List.mem_append.mp h).elim (fun h => wsL_law_in0 w h) (fun h => wsL_law_x0 w h)) (fun h => wsL_law_x1 w h)) (fun h => wsL_law_x2 w h)) (fun h => wsL_law_x3 w h)
theorem inlX0 : ∀ w ∈ wsX00, w ∈ wsL_law := fun _ h => List.mem_append_left _ (List.mem_append_left _ (List.mem_append_left _ (List.mem_append_left _ (List.mem_append_left _ (List.mem_append_left _ (List.mem_append_right _ h))))))
theorem inX0 : ∀ w ∈ wsX00, w ∈ lw_tbl := fun w h => wsL_law_in w (inlX0 w h)
theorem inlX1 : ∀ w ∈ wsX10, w ∈ wsL_law := fun _ h => List.mem_append_left _ (List.mem_append_left _ (List.mem_append_left _ (List.mem_append_left _ (List.mem_append_left _ (List.mem_append_right _ h)))))
theorem inX1 : ∀ w ∈ wsX10, w ∈ lw_tbl := fun w h => wsL_law_in w (inlX1 w h)
theorem inlX2 : ∀ w ∈ wsX20, w ∈ wsL_law := fun _ h => List.mem_append_left _ (List.mem_append_left _ (List.mem_append_left _ (List.mem_append_left _ (List.mem_append_left _ (List.mem_append_left _ (List.mem_append_left _ (List.mem_append_left _ (List.mem_append_right _ h))))))))
theorem inX2 : ∀ w ∈ wsX20, w ∈ lw_tbl := fun w h => wsL_law_in w (inlX2 w h)
theorem inlX3 : ∀ w ∈ wsX30, w ∈ wsL_law := fun _ h => List.mem_append_left _ (List.mem_append_left _ (List.mem_append_left _ (List.mem_append_left _ (List.mem_append_left _ (List.mem_append_left _ (List.mem_append_left _ (List.mem_append_right _ h)))))))
theorem inX3 : ∀ w ∈ wsX30, w ∈ lw_tbl := fun w h => wsL_law_in w (inlX3 w h)
theorem inlX4 : ∀ w ∈ wsX40, w ∈ wsL_law := fun _ h => List.mem_append_left _ (List.mem_append_left _ (List.mem_append_left _ (List.mem_append_left _ (List.mem_append_left _ (List.mem_append_left _ (List.mem_append_left _ (List.mem_append_left _ (List.mem_append_left _ (List.mem_append_right _ h)))))))))
theorem inX4 : ∀ w ∈ wsX40, w ∈ lw_tbl := fun w h => wsL_law_in w (inlX4 w h)
theorem inlX5 : ∀ w ∈ wsX50, w ∈ wsL_law := fun _ h => List.mem_append_left _ (List.mem_append_left _ (List.mem_append_left _ (List.mem_append_left _ (List.mem_append_left _ (List.mem_append_left _ (List.mem_append_left _ (List.mem_append_left _ (List.mem_append_left _ (List.mem_append_left _ (List.mem_append_left _ (List.mem_append_right _ h)))))))))))
theorem inX5 : ∀ w ∈ wsX50, w ∈ lw_tbl := fun w h => wsL_law_in w (inlX5 w h)
theorem inlX6 : ∀ w ∈ wsX60, w ∈ wsL_law := fun _ h => List.mem_append_left _ (List.mem_append_left _ (List.mem_append_left _ (List.mem_append_left _ (List.mem_append_left _ (List.mem_append_left _ (List.mem_append_left _ (List.mem_append_left _ (List.mem_append_left _ (List.mem_append_left _ (List.mem_append_right _ h))))))))))
theorem inX6 : ∀ w ∈ wsX60, w ∈ lw_tbl := fun w h => wsL_law_in w (inlX6 w h)
theorem inJ9 : ∀ w ∈ wsJ90, w ∈ lw_tbl := by decide +kernel
theorem inJ0 : ∀ w ∈ wsJ00, w ∈ lw_tbl := by decide +kernel
end
section
theorem dX0_init_0 : decode cX0_init 0 = .ok (.aload_n 0, 1) := by decide +kernel
theorem dX0_init_1 : decode cX0_init 1 = .ok (.invokespecial 3, 3) := by decide +kernel
theorem dX0_init_4 : decode cX0_init 4 = .ok (.aload_n 0, 1) := by decide +kernel
theorem dX0_init_5 : decode cX0_init 5 = .ok (.iload_n 1, 1) := by decide +kernel
theorem dX0_init_6 : decode cX0_init 6 = .ok (.putfield 9, 3) := by decide +kernel
theorem dX0_init_9 : decode cX0_init 9 = .ok (.aload_n 0, 1) := by decide +kernel
theorem dX0_init_10 : decode cX0_init 10 = .ok (.iload_n 2, 1) := by decide +kernel
theorem dX0_init_11 : decode cX0_init 11 = .ok (.putfield 15, 3) := by decide +kernel
theorem dX0_init_14 : decode cX0_init 14 = .ok (.aload_n 0, 1) := by decide +kernel
theorem dX0_init_15 : decode cX0_init 15 = .ok (.iload_n 3, 1) := by decide +kernel
theorem dX0_init_16 : decode cX0_init 16 = .ok (.putfield 18, 3) := by decide +kernel
theorem dX0_init_19 : decode cX0_init 19 = .ok (.return_, 1) := by decide +kernel
theorem dX0_lowersLimitOn_0 : decode cX0_lowersLimitOn 0 = .ok (.aload_n 0, 1) := by decide +kernel
theorem dX0_lowersLimitOn_1 : decode cX0_lowersLimitOn 1 = .ok (.getfield 22, 3) := by decide +kernel
theorem dX0_lowersLimitOn_4 : decode cX0_lowersLimitOn 4 = .ok (.ifCond .ne 18, 3) := by decide +kernel
theorem dX0_lowersLimitOn_7 : decode cX0_lowersLimitOn 7 = .ok (.iload_n 1, 1) := by decide +kernel
theorem dX0_lowersLimitOn_8 : decode cX0_lowersLimitOn 8 = .ok (.aload_n 0, 1) := by decide +kernel
theorem dX0_lowersLimitOn_9 : decode cX0_lowersLimitOn 9 = .ok (.getfield 9, 3) := by decide +kernel
theorem dX0_lowersLimitOn_12 : decode cX0_lowersLimitOn 12 = .ok (.isub, 1) := by decide +kernel
theorem dX0_lowersLimitOn_13 : decode cX0_lowersLimitOn 13 = .ok (.bipush 30, 2) := by decide +kernel
theorem dX0_lowersLimitOn_15 : decode cX0_lowersLimitOn 15 = .ok (.if_icmp .ge 7, 3) := by decide +kernel
theorem dX0_lowersLimitOn_18 : decode cX0_lowersLimitOn 18 = .ok (.iconst 1, 1) := by decide +kernel
theorem dX0_lowersLimitOn_19 : decode cX0_lowersLimitOn 19 = .ok (.goto 4, 3) := by decide +kernel
theorem dX0_lowersLimitOn_22 : decode cX0_lowersLimitOn 22 = .ok (.iconst 0, 1) := by decide +kernel
theorem dX0_lowersLimitOn_23 : decode cX0_lowersLimitOn 23 = .ok (.ireturn, 1) := by decide +kernel
theorem dX1_init_0 : decode cX1_init 0 = .ok (.aload_n 0, 1) := by decide +kernel
theorem dX1_init_1 : decode cX1_init 1 = .ok (.invokespecial 1, 3) := by decide +kernel
theorem dX1_init_4 : decode cX1_init 4 = .ok (.aload_n 0, 1) := by decide +kernel
theorem dX1_init_5 : decode cX1_init 5 = .ok (.iload_n 1, 1) := by decide +kernel
theorem dX1_init_6 : decode cX1_init 6 = .ok (.putfield 7, 3) := by decide +kernel
theorem dX1_init_9 : decode cX1_init 9 = .ok (.aload_n 0, 1) := by decide +kernel
theorem dX1_init_10 : decode cX1_init 10 = .ok (.iload_n 2, 1) := by decide +kernel
theorem dX1_init_11 : decode cX1_init 11 = .ok (.putfield 13, 3) := by decide +kernel
theorem dX1_init_14 : decode cX1_init 14 = .ok (.aload_n 0, 1) := by decide +kernel
theorem dX1_init_15 : decode cX1_init 15 = .ok (.aload_n 3, 1) := by decide +kernel
theorem dX1_init_16 : decode cX1_init 16 = .ok (.putfield 16, 3) := by decide +kernel
theorem dX1_init_19 : decode cX1_init 19 = .ok (.aload_n 0, 1) := by decide +kernel
theorem dX1_init_20 : decode cX1_init 20 = .ok (.iload 4, 2) := by decide +kernel
theorem dX1_init_22 : decode cX1_init 22 = .ok (.putfield 20, 3) := by decide +kernel
theorem dX1_init_25 : decode cX1_init 25 = .ok (.aload_n 0, 1) := by decide +kernel
theorem dX1_init_26 : decode cX1_init 26 = .ok (.iload 5, 2) := by decide +kernel
theorem dX1_init_28 : decode cX1_init 28 = .ok (.putfield 23, 3) := by decide +kernel
theorem dX1_init_31 : decode cX1_init 31 = .ok (.return_, 1) := by decide +kernel
theorem dX1_isFinished_0 : decode cX1_isFinished 0 = .ok (.aload_n 0, 1) := by decide +kernel
theorem dX1_isFinished_1 : decode cX1_isFinished 1 = .ok (.getfield 20, 3) := by decide +kernel
theorem dX1_isFinished_4 : decode cX1_isFinished 4 = .ok (.ifCond .gt 7, 3) := by decide +kernel
theorem dX1_isFinished_7 : decode cX1_isFinished 7 = .ok (.iconst 1, 1) := by decide +kernel
theorem dX1_isFinished_8 : decode cX1_isFinished 8 = .ok (.goto 4, 3) := by decide +kernel
theorem dX1_isFinished_11 : decode cX1_isFinished 11 = .ok (.iconst 0, 1) := by decide +kernel
theorem dX1_isFinished_12 : decode cX1_isFinished 12 = .ok (.ireturn, 1) := by decide +kernel
theorem dX1_hasFreeTool_0 : decode cX1_hasFreeTool 0 = .ok (.aload_n 0, 1) := by decide +kernel
theorem dX1_hasFreeTool_1 : decode cX1_hasFreeTool 1 = .ok (.getfield 16, 3) := by decide +kernel
theorem dX1_hasFreeTool_4 : decode cX1_hasFreeTool 4 = .ok (.getfield 26, 3) := by decide +kernel
theorem dX1_hasFreeTool_7 : decode cX1_hasFreeTool 7 = .ok (.aload_n 0, 1) := by decide +kernel
theorem dX1_hasFreeTool_8 : decode cX1_hasFreeTool 8 = .ok (.getfield 16, 3) := by decide +kernel
theorem dX1_hasFreeTool_11 : decode cX1_hasFreeTool 11 = .ok (.getfield 31, 3) := by decide +kernel
theorem dX1_hasFreeTool_14 : decode cX1_hasFreeTool 14 = .ok (.if_icmp .ge 7, 3) := by decide +kernel
theorem dX1_hasFreeTool_17 : decode cX1_hasFreeTool 17 = .ok (.iconst 1, 1) := by decide +kernel
theorem dX1_hasFreeTool_18 : decode cX1_hasFreeTool 18 = .ok (.goto 4, 3) := by decide +kernel
theorem dX1_hasFreeTool_21 : decode cX1_hasFreeTool 21 = .ok (.iconst 0, 1) := by decide +kernel
theorem dX1_hasFreeTool_22 : decode cX1_hasFreeTool 22 = .ok (.ireturn, 1) := by decide +kernel
set_option maxRecDepth 20000 in
theorem ggX2_init_X3_init : GoodIn wsX2_init wsX3_init := goodIn_r _ [15, 16, 2, 3, 17, 18, 33, 34, 35, 36] (by decide +kernel) (by decide +kernel)
set_option maxRecDepth 20000 in
theorem gX2_init_X3_init_n23 : GoodIn wsX2_init (wsX3_init) := ggX2_init_X3_init
theorem dX2_init_0 : decode cX2_init 0 = .ok (.aload_n 0, 1) := by decide +kernel
theorem dX2_init_1 : decode cX2_init 1 = .ok (.invokespecial 3, 3) := by decide +kernel
theorem dX2_init_4 : decode cX2_init 4 = .ok (.aload_n 0, 1) := by decide +kernel
theorem dX2_init_5 : decode cX2_init 5 = .ok (.iconst 1, 1) := by decide +kernel
theorem dX2_init_6 : decode cX2_init 6 = .ok (.putfield 9, 3) := by decide +kernel
theorem dX2_init_9 : decode cX2_init 9 = .ok (.aload_n 0, 1) := by decide +kernel
theorem dX2_init_10 : decode cX2_init 10 = .ok (.bipush 50, 2) := by decide +kernel
theorem dX2_init_12 : decode cX2_init 12 = .ok (.anewarray 15, 3) := by decide +kernel
theorem dX2_init_15 : decode cX2_init 15 = .ok (.putfield 17, 3) := by decide +kernel
theorem dX2_init_18 : decode cX2_init 18 = .ok (.aload_n 0, 1) := by decide +kernel
theorem dX2_init_19 : decode cX2_init 19 = .ok (.new 21, 3) := by decide +kernel
theorem dX2_init_22 : decode cX2_init 22 = .ok (.dup, 1) := by decide +kernel
theorem dX2_init_23 : decode cX2_init 23 = .ok (.invokespecial 23, 3) := by decide +kernel
theorem dX2_init_26 : decode cX2_init 26 = .ok (.putfield 24, 3) := by decide +kernel
theorem dX2_init_29 : decode cX2_init 29 = .ok (.aload_n 0, 1) := by decide +kernel
theorem dX2_init_30 : decode cX2_init 30 = .ok (.iload_n 1, 1) := by decide +kernel
theorem dX2_init_31 : decode cX2_init 31 = .ok (.putfield 28, 3) := by decide +kernel
theorem dX2_init_34 : decode cX2_init 34 = .ok (.aload_n 0, 1) := by decide +kernel
theorem dX2_init_35 : decode cX2_init 35 = .ok (.iload_n 2, 1) := by decide +kernel
theorem dX2_init_36 : decode cX2_init 36 = .ok (.putfield 31, 3) := by decide +kernel
theorem dX2_init_39 : decode cX2_init 39 = .ok (.aload_n 0, 1) := by decide +kernel
theorem dX2_init_40 : decode cX2_init 40 = .ok (.iload_n 3, 1) := by decide +kernel
theorem dX2_init_41 : decode cX2_init 41 = .ok (.putfield 34, 3) := by decide +kernel
theorem dX2_init_44 : decode cX2_init 44 = .ok (.return_, 1) := by decide +kernel
theorem dX2_gainedDays_0 : decode cX2_gainedDays 0 = .ok (.aload_n 0, 1) := by decide +kernel
theorem dX2_gainedDays_1 : decode cX2_gainedDays 1 = .ok (.getfield 37, 3) := by decide +kernel
theorem dX2_gainedDays_4 : decode cX2_gainedDays 4 = .ok (.iconst 5, 1) := by decide +kernel
theorem dX2_gainedDays_5 : decode cX2_gainedDays 5 = .ok (.idiv, 1) := by decide +kernel
theorem dX2_gainedDays_6 : decode cX2_gainedDays 6 = .ok (.aload_n 0, 1) := by decide +kernel
theorem dX2_gainedDays_7 : decode cX2_gainedDays 7 = .ok (.getfield 40, 3) := by decide +kernel
theorem dX2_gainedDays_10 : decode cX2_gainedDays 10 = .ok (.iadd, 1) := by decide +kernel
theorem dX2_gainedDays_11 : decode cX2_gainedDays 11 = .ok (.ireturn, 1) := by decide +kernel
set_option maxRecDepth 20000 in
theorem ggX2_releaseDay_X2_gainedDays : GoodIn wsX2_releaseDay wsX2_gainedDays := goodIn_r _ [14, 15, 16, 17, 18, 19, 20, 21, 22, 23, 24, 25, 26, 27, 28, 29, 30] (by decide +kernel) (by decide +kernel)
set_option maxRecDepth 20000 in
theorem gX2_releaseDay_X2_gainedDays : GoodIn wsX2_releaseDay (wsV RX2 50 RX2 yX2_gainedDays wsX2_gainedDays) := goodIn_app (goodIn_of _ (by decide +kernel)) ggX2_releaseDay_X2_gainedDays
theorem dX2_releaseDay_0 : decode cX2_releaseDay 0 = .ok (.aload_n 0, 1) := by decide +kernel
theorem dX2_releaseDay_1 : decode cX2_releaseDay 1 = .ok (.getfield 43, 3) := by decide +kernel
theorem dX2_releaseDay_4 : decode cX2_releaseDay 4 = .ok (.ifCond .eq 8, 3) := by decide +kernel
theorem dX2_releaseDay_7 : decode cX2_releaseDay 7 = .ok (.aload_n 0, 1) := by decide +kernel
theorem dX2_releaseDay_8 : decode cX2_releaseDay 8 = .ok (.getfield 47, 3) := by decide +kernel
theorem dX2_releaseDay_11 : decode cX2_releaseDay 11 = .ok (.ireturn, 1) := by decide +kernel
theorem dX2_releaseDay_12 : decode cX2_releaseDay 12 = .ok (.aload_n 0, 1) := by decide +kernel
theorem dX2_releaseDay_13 : decode cX2_releaseDay 13 = .ok (.getfield 28, 3) := by decide +kernel
theorem dX2_releaseDay_16 : decode cX2_releaseDay 16 = .ok (.aload_n 0, 1) := by decide +kernel
theorem dX2_releaseDay_17 : decode cX2_releaseDay 17 = .ok (.getfield 31, 3) := by decide +kernel
theorem dX2_releaseDay_20 : decode cX2_releaseDay 20 = .ok (.iadd, 1) := by decide +kernel
theorem dX2_releaseDay_21 : decode cX2_releaseDay 21 = .ok (.aload_n 0, 1) := by decide +kernel
theorem dX2_releaseDay_22 : decode cX2_releaseDay 22 = .ok (.invokevirtual 50, 3) := by decide +kernel
theorem dX2_releaseDay_25 : decode cX2_releaseDay 25 = .ok (.aload_n 0, 1) := by decide +kernel
theorem dX2_releaseDay_26 : decode cX2_releaseDay 26 = .ok (.getfield 31, 3) := by decide +kernel
theorem dX2_releaseDay_29 : decode cX2_releaseDay 29 = .ok (.iconst 4, 1) := by decide +kernel
theorem dX2_releaseDay_30 : decode cX2_releaseDay 30 = .ok (.idiv, 1) := by decide +kernel
theorem dX2_releaseDay_31 : decode cX2_releaseDay 31 = .ok (.invokestatic 54, 3) := by decide +kernel
theorem dX2_releaseDay_34 : decode cX2_releaseDay 34 = .ok (.isub, 1) := by decide +kernel
theorem dX2_releaseDay_35 : decode cX2_releaseDay 35 = .ok (.aload_n 0, 1) := by decide +kernel
theorem dX2_releaseDay_36 : decode cX2_releaseDay 36 = .ok (.getfield 60, 3) := by decide +kernel
theorem dX2_releaseDay_39 : decode cX2_releaseDay 39 = .ok (.iadd, 1) := by decide +kernel
theorem dX2_releaseDay_40 : decode cX2_releaseDay 40 = .ok (.ireturn, 1) := by decide +kernel
theorem dX2_hasSkill_0 : decode cX2_hasSkill 0 = .ok (.aload_n 0, 1) := by decide +kernel
theorem dX2_hasSkill_1 : decode cX2_hasSkill 1 = .ok (.getfield 34, 3) := by decide +kernel
theorem dX2_hasSkill_4 : decode cX2_hasSkill 4 = .ok (.iconst 1, 1) := by decide +kernel
theorem dX2_hasSkill_5 : decode cX2_hasSkill 5 = .ok (.iload_n 1, 1) := by decide +kernel
theorem dX2_hasSkill_6 : decode cX2_hasSkill 6 = .ok (.ishl, 1) := by decide +kernel
theorem dX2_hasSkill_7 : decode cX2_hasSkill 7 = .ok (.iand, 1) := by decide +kernel
theorem dX2_hasSkill_8 : decode cX2_hasSkill 8 = .ok (.ifCond .eq 7, 3) := by decide +kernel
theorem dX2_hasSkill_11 : decode cX2_hasSkill 11 = .ok (.iconst 1, 1) := by decide +kernel
theorem dX2_hasSkill_12 : decode cX2_hasSkill 12 = .ok (.goto 4, 3) := by decide +kernel
theorem dX2_hasSkill_15 : decode cX2_hasSkill 15 = .ok (.iconst 0, 1) := by decide +kernel
theorem dX2_hasSkill_16 : decode cX2_hasSkill 16 = .ok (.ireturn, 1) := by decide +kernel
theorem dX2_hasRoomForPaper_0 : decode cX2_hasRoomForPaper 0 = .ok (.aload_n 0, 1) := by decide +kernel
theorem dX2_hasRoomForPaper_1 : decode cX2_hasRoomForPaper 1 = .ok (.getfield 63, 3) := by decide +kernel
theorem dX2_hasRoomForPaper_4 : decode cX2_hasRoomForPaper 4 = .ok (.aload_n 0, 1) := by decide +kernel
theorem dX2_hasRoomForPaper_5 : decode cX2_hasRoomForPaper 5 = .ok (.getfield 66, 3) := by decide +kernel
theorem dX2_hasRoomForPaper_8 : decode cX2_hasRoomForPaper 8 = .ok (.iadd, 1) := by decide +kernel
theorem dX2_hasRoomForPaper_9 : decode cX2_hasRoomForPaper 9 = .ok (.bipush 50, 2) := by decide +kernel
theorem dX2_hasRoomForPaper_11 : decode cX2_hasRoomForPaper 11 = .ok (.if_icmp .ge 7, 3) := by decide +kernel
theorem dX2_hasRoomForPaper_14 : decode cX2_hasRoomForPaper 14 = .ok (.iconst 1, 1) := by decide +kernel
theorem dX2_hasRoomForPaper_15 : decode cX2_hasRoomForPaper 15 = .ok (.goto 4, 3) := by decide +kernel
theorem dX2_hasRoomForPaper_18 : decode cX2_hasRoomForPaper 18 = .ok (.iconst 0, 1) := by decide +kernel
theorem dX2_hasRoomForPaper_19 : decode cX2_hasRoomForPaper 19 = .ok (.ireturn, 1) := by decide +kernel
theorem dX2_raiseRegime_0 : decode cX2_raiseRegime 0 = .ok (.aload_n 0, 1) := by decide +kernel
theorem dX2_raiseRegime_1 : decode cX2_raiseRegime 1 = .ok (.aload_n 0, 1) := by decide +kernel
theorem dX2_raiseRegime_2 : decode cX2_raiseRegime 2 = .ok (.getfield 9, 3) := by decide +kernel
theorem dX2_raiseRegime_5 : decode cX2_raiseRegime 5 = .ok (.iconst 1, 1) := by decide +kernel
theorem dX2_raiseRegime_6 : decode cX2_raiseRegime 6 = .ok (.iadd, 1) := by decide +kernel
theorem dX2_raiseRegime_7 : decode cX2_raiseRegime 7 = .ok (.iconst 2, 1) := by decide +kernel
theorem dX2_raiseRegime_8 : decode cX2_raiseRegime 8 = .ok (.invokestatic 54, 3) := by decide +kernel
theorem dX2_raiseRegime_11 : decode cX2_raiseRegime 11 = .ok (.putfield 9, 3) := by decide +kernel
theorem dX2_raiseRegime_14 : decode cX2_raiseRegime 14 = .ok (.return_, 1) := by decide +kernel
set_option maxRecDepth 20000 in
theorem ggX2_enterCourse_X2_hasRoomForPaper : GoodIn wsX2_enterCourse wsX2_hasRoomForPaper := goodIn_r _ [10, 4, 11, 21, 22, 23, 24, 25, 26, 27, 28, 29, 30, 31, 32, 33, 34] (by decide +kernel) (by decide +kernel)
set_option maxRecDepth 20000 in
theorem gX2_enterCourse_X2_hasRoomForPaper : GoodIn wsX2_enterCourse (wsV RX2 69 RX2 yX2_hasRoomForPaper wsX2_hasRoomForPaper) := goodIn_app (goodIn_of _ (by decide +kernel)) ggX2_enterCourse_X2_hasRoomForPaper
set_option maxRecDepth 20000 in
theorem ggX2_enterCourse_X2_raiseRegime : GoodIn wsX2_enterCourse wsX2_raiseRegime := goodIn_r _ [15, 16, 17, 18, 19, 20, 21, 22, 23, 24, 25, 26, 27, 28, 29, 30, 31, 32, 33, 34] (by decide +kernel) (by decide +kernel)
set_option maxRecDepth 20000 in
theorem gX2_enterCourse_X2_raiseRegime : GoodIn wsX2_enterCourse (wsV RX2 80 RX2 yX2_raiseRegime wsX2_raiseRegime) := goodIn_app (goodIn_of _ (by decide +kernel)) ggX2_enterCourse_X2_raiseRegime
theorem dX2_enterCourse_0 : decode cX2_enterCourse 0 = .ok (.aload_n 0, 1) := by decide +kernel
theorem dX2_enterCourse_1 : decode cX2_enterCourse 1 = .ok (.invokevirtual 69, 3) := by decide +kernel
theorem dX2_enterCourse_4 : decode cX2_enterCourse 4 = .ok (.ifCond .ne 13, 3) := by decide +kernel
theorem dX2_enterCourse_7 : decode cX2_enterCourse 7 = .ok (.new 73, 3) := by decide +kernel
theorem dX2_enterCourse_10 : decode cX2_enterCourse 10 = .ok (.dup, 1) := by decide +kernel
theorem dX2_enterCourse_11 : decode cX2_enterCourse 11 = .ok (.ldc 75, 2) := by decide +kernel
theorem dX2_enterCourse_13 : decode cX2_enterCourse 13 = .ok (.invokespecial 77, 3) := by decide +kernel
theorem dX2_enterCourse_16 : decode cX2_enterCourse 16 = .ok (.athrow, 1) := by decide +kernel
theorem dX2_enterCourse_17 : decode cX2_enterCourse 17 = .ok (.aload_n 0, 1) := by decide +kernel
theorem dX2_enterCourse_18 : decode cX2_enterCourse 18 = .ok (.dup, 1) := by decide +kernel
theorem dX2_enterCourse_19 : decode cX2_enterCourse 19 = .ok (.getfield 34, 3) := by decide +kernel
theorem dX2_enterCourse_22 : decode cX2_enterCourse 22 = .ok (.iconst 1, 1) := by decide +kernel
theorem dX2_enterCourse_23 : decode cX2_enterCourse 23 = .ok (.iload_n 1, 1) := by decide +kernel
theorem dX2_enterCourse_24 : decode cX2_enterCourse 24 = .ok (.ishl, 1) := by decide +kernel
theorem dX2_enterCourse_25 : decode cX2_enterCourse 25 = .ok (.ior, 1) := by decide +kernel
theorem dX2_enterCourse_26 : decode cX2_enterCourse 26 = .ok (.putfield 34, 3) := by decide +kernel
theorem dX2_enterCourse_29 : decode cX2_enterCourse 29 = .ok (.aload_n 0, 1) := by decide +kernel
theorem dX2_enterCourse_30 : decode cX2_enterCourse 30 = .ok (.dup, 1) := by decide +kernel
theorem dX2_enterCourse_31 : decode cX2_enterCourse 31 = .ok (.getfield 63, 3) := by decide +kernel
theorem dX2_enterCourse_34 : decode cX2_enterCourse 34 = .ok (.iconst 1, 1) := by decide +kernel
theorem dX2_enterCourse_35 : decode cX2_enterCourse 35 = .ok (.iadd, 1) := by decide +kernel
theorem dX2_enterCourse_36 : decode cX2_enterCourse 36 = .ok (.putfield 63, 3) := by decide +kernel
theorem dX2_enterCourse_39 : decode cX2_enterCourse 39 = .ok (.aload_n 0, 1) := by decide +kernel
theorem dX2_enterCourse_40 : decode cX2_enterCourse 40 = .ok (.dup, 1) := by decide +kernel
theorem dX2_enterCourse_41 : decode cX2_enterCourse 41 = .ok (.getfield 40, 3) := by decide +kernel
theorem dX2_enterCourse_44 : decode cX2_enterCourse 44 = .ok (.iload_n 2, 1) := by decide +kernel
theorem dX2_enterCourse_45 : decode cX2_enterCourse 45 = .ok (.iadd, 1) := by decide +kernel
theorem dX2_enterCourse_46 : decode cX2_enterCourse 46 = .ok (.putfield 40, 3) := by decide +kernel
theorem dX2_enterCourse_49 : decode cX2_enterCourse 49 = .ok (.aload_n 0, 1) := by decide +kernel
theorem dX2_enterCourse_50 : decode cX2_enterCourse 50 = .ok (.invokevirtual 80, 3) := by decide +kernel
theorem dX2_enterCourse_53 : decode cX2_enterCourse 53 = .ok (.return_, 1) := by decide +kernel
set_option maxRecDepth 20000 in
theorem ggX2_enterOffence_X2_hasRoomForPaper : GoodIn wsX2_enterOffence wsX2_hasRoomForPaper := goodIn_r _ [14, 15, 3, 33, 34, 35, 36, 37, 38, 39, 40, 41, 42, 43, 44, 45, 46] (by decide +kernel) (by decide +kernel)
set_option maxRecDepth 20000 in
theorem gX2_enterOffence_X2_hasRoomForPaper : GoodIn wsX2_enterOffence (wsV RX2 69 RX2 yX2_hasRoomForPaper wsX2_hasRoomForPaper) := goodIn_app (goodIn_of _ (by decide +kernel)) ggX2_enterOffence_X2_hasRoomForPaper
set_option maxRecDepth 20000 in
theorem ggX2_enterOffence_X0_init : GoodIn wsX2_enterOffence wsX0_init := goodIn_r _ [18, 19, 20, 21, 22, 23, 24, 47, 48, 49, 50] (by decide +kernel) (by decide +kernel)
set_option maxRecDepth 20000 in
theorem gX2_enterOffence_X0_init : GoodIn wsX2_enterOffence (wsX0_init) := ggX2_enterOffence_X0_init
set_option maxRecDepth 20000 in
theorem ggX2_enterOffence_X2_leaveOrder : GoodIn wsX2_enterOffence wsX2_leaveOrder := goodIn_r _ [28, 29, 30, 31, 32, 33, 34, 35, 36, 37, 38, 39, 40, 41, 42, 43, 44, 45, 46, 51, 52, 53, 54, 55, 56, 57, 58] (by decide +kernel) (by decide +kernel)
set_option maxRecDepth 20000 in
theorem gX2_enterOffence_X2_leaveOrder : GoodIn wsX2_enterOffence (wsV RX2 86 RX2 yX2_leaveOrder wsX2_leaveOrder) := goodIn_app (goodIn_of _ (by decide +kernel)) ggX2_enterOffence_X2_leaveOrder
theorem dX2_enterOffence_0 : decode cX2_enterOffence 0 = .ok (.aload_n 0, 1) := by decide +kernel
theorem dX2_enterOffence_1 : decode cX2_enterOffence 1 = .ok (.getfield 66, 3) := by decide +kernel
theorem dX2_enterOffence_4 : decode cX2_enterOffence 4 = .ok (.istore_n 3, 1) := by decide +kernel
theorem dX2_enterOffence_5 : decode cX2_enterOffence 5 = .ok (.aload_n 0, 1) := by decide +kernel
theorem dX2_enterOffence_6 : decode cX2_enterOffence 6 = .ok (.invokevirtual 69, 3) := by decide +kernel
theorem dX2_enterOffence_9 : decode cX2_enterOffence 9 = .ok (.ifCond .eq 16, 3) := by decide +kernel
theorem dX2_enterOffence_12 : decode cX2_enterOffence 12 = .ok (.iload_n 3, 1) := by decide +kernel
theorem dX2_enterOffence_13 : decode cX2_enterOffence 13 = .ok (.ifCond .lt 12, 3) := by decide +kernel
theorem dX2_enterOffence_16 : decode cX2_enterOffence 16 = .ok (.iload_n 3, 1) := by decide +kernel
theorem dX2_enterOffence_17 : decode cX2_enterOffence 17 = .ok (.aload_n 0, 1) := by decide +kernel
theorem dX2_enterOffence_18 : decode cX2_enterOffence 18 = .ok (.getfield 17, 3) := by decide +kernel
theorem dX2_enterOffence_21 : decode cX2_enterOffence 21 = .ok (.arraylength, 1) := by decide +kernel
theorem dX2_enterOffence_22 : decode cX2_enterOffence 22 = .ok (.if_icmp .lt 13, 3) := by decide +kernel
theorem dX2_enterOffence_25 : decode cX2_enterOffence 25 = .ok (.new 73, 3) := by decide +kernel
theorem dX2_enterOffence_28 : decode cX2_enterOffence 28 = .ok (.dup, 1) := by decide +kernel
theorem dX2_enterOffence_29 : decode cX2_enterOffence 29 = .ok (.ldc 75, 2) := by decide +kernel
theorem dX2_enterOffence_31 : decode cX2_enterOffence 31 = .ok (.invokespecial 77, 3) := by decide +kernel
theorem dX2_enterOffence_34 : decode cX2_enterOffence 34 = .ok (.athrow, 1) := by decide +kernel
theorem dX2_enterOffence_35 : decode cX2_enterOffence 35 = .ok (.aload_n 0, 1) := by decide +kernel
theorem dX2_enterOffence_36 : decode cX2_enterOffence 36 = .ok (.getfield 9, 3) := by decide +kernel
theorem dX2_enterOffence_39 : decode cX2_enterOffence 39 = .ok (.ifCond .le 7, 3) := by decide +kernel
theorem dX2_enterOffence_42 : decode cX2_enterOffence 42 = .ok (.iconst 1, 1) := by decide +kernel
theorem dX2_enterOffence_43 : decode cX2_enterOffence 43 = .ok (.goto 4, 3) := by decide +kernel
theorem dX2_enterOffence_46 : decode cX2_enterOffence 46 = .ok (.iconst 0, 1) := by decide +kernel
theorem dX2_enterOffence_47 : decode cX2_enterOffence 47 = .ok (.istore 4, 2) := by decide +kernel
theorem dX2_enterOffence_49 : decode cX2_enterOffence 49 = .ok (.iload 4, 2) := by decide +kernel
theorem dX2_enterOffence_51 : decode cX2_enterOffence 51 = .ok (.ifCond .eq 13, 3) := by decide +kernel
theorem dX2_enterOffence_54 : decode cX2_enterOffence 54 = .ok (.aload_n 0, 1) := by decide +kernel
theorem dX2_enterOffence_55 : decode cX2_enterOffence 55 = .ok (.dup, 1) := by decide +kernel
theorem dX2_enterOffence_56 : decode cX2_enterOffence 56 = .ok (.getfield 9, 3) := by decide +kernel
theorem dX2_enterOffence_59 : decode cX2_enterOffence 59 = .ok (.iconst 1, 1) := by decide +kernel
theorem dX2_enterOffence_60 : decode cX2_enterOffence 60 = .ok (.isub, 1) := by decide +kernel
theorem dX2_enterOffence_61 : decode cX2_enterOffence 61 = .ok (.putfield 9, 3) := by decide +kernel
theorem dX2_enterOffence_64 : decode cX2_enterOffence 64 = .ok (.aload_n 0, 1) := by decide +kernel
theorem dX2_enterOffence_65 : decode cX2_enterOffence 65 = .ok (.getfield 17, 3) := by decide +kernel
theorem dX2_enterOffence_68 : decode cX2_enterOffence 68 = .ok (.iload_n 3, 1) := by decide +kernel
theorem dX2_enterOffence_69 : decode cX2_enterOffence 69 = .ok (.new 15, 3) := by decide +kernel
theorem dX2_enterOffence_72 : decode cX2_enterOffence 72 = .ok (.dup, 1) := by decide +kernel
theorem dX2_enterOffence_73 : decode cX2_enterOffence 73 = .ok (.iload_n 1, 1) := by decide +kernel
theorem dX2_enterOffence_74 : decode cX2_enterOffence 74 = .ok (.iload_n 2, 1) := by decide +kernel
theorem dX2_enterOffence_75 : decode cX2_enterOffence 75 = .ok (.iload 4, 2) := by decide +kernel
theorem dX2_enterOffence_77 : decode cX2_enterOffence 77 = .ok (.invokespecial 83, 3) := by decide +kernel
theorem dX2_enterOffence_80 : decode cX2_enterOffence 80 = .ok (.aastore, 1) := by decide +kernel
theorem dX2_enterOffence_81 : decode cX2_enterOffence 81 = .ok (.aload_n 0, 1) := by decide +kernel
theorem dX2_enterOffence_82 : decode cX2_enterOffence 82 = .ok (.dup, 1) := by decide +kernel
theorem dX2_enterOffence_83 : decode cX2_enterOffence 83 = .ok (.getfield 66, 3) := by decide +kernel
theorem dX2_enterOffence_86 : decode cX2_enterOffence 86 = .ok (.iconst 1, 1) := by decide +kernel
theorem dX2_enterOffence_87 : decode cX2_enterOffence 87 = .ok (.iadd, 1) := by decide +kernel
theorem dX2_enterOffence_88 : decode cX2_enterOffence 88 = .ok (.putfield 66, 3) := by decide +kernel
theorem dX2_enterOffence_91 : decode cX2_enterOffence 91 = .ok (.aload_n 0, 1) := by decide +kernel
theorem dX2_enterOffence_92 : decode cX2_enterOffence 92 = .ok (.dup, 1) := by decide +kernel
theorem dX2_enterOffence_93 : decode cX2_enterOffence 93 = .ok (.getfield 60, 3) := by decide +kernel
theorem dX2_enterOffence_96 : decode cX2_enterOffence 96 = .ok (.iload_n 2, 1) := by decide +kernel
theorem dX2_enterOffence_97 : decode cX2_enterOffence 97 = .ok (.iadd, 1) := by decide +kernel
theorem dX2_enterOffence_98 : decode cX2_enterOffence 98 = .ok (.putfield 60, 3) := by decide +kernel
theorem dX2_enterOffence_101 : decode cX2_enterOffence 101 = .ok (.aload_n 0, 1) := by decide +kernel
theorem dX2_enterOffence_102 : decode cX2_enterOffence 102 = .ok (.invokevirtual 86, 3) := by decide +kernel
theorem dX2_enterOffence_105 : decode cX2_enterOffence 105 = .ok (.iload_n 3, 1) := by decide +kernel
theorem dX2_enterOffence_106 : decode cX2_enterOffence 106 = .ok (.ireturn, 1) := by decide +kernel
set_option maxRecDepth 20000 in
theorem ggX2_appealOffence_X2_raiseRegime : GoodIn wsX2_appealOffence wsX2_raiseRegime := goodIn_r _ [9, 10, 11, 12, 13, 14, 19, 20, 21, 22, 23, 24, 25, 26, 27, 28, 29, 30, 31, 32] (by decide +kernel) (by decide +kernel)
set_option maxRecDepth 20000 in
theorem gX2_appealOffence_X2_raiseRegime : GoodIn wsX2_appealOffence (wsV RX2 80 RX2 yX2_raiseRegime wsX2_raiseRegime) := goodIn_app (goodIn_of _ (by decide +kernel)) ggX2_appealOffence_X2_raiseRegime
theorem dX2_appealOffence_0 : decode cX2_appealOffence 0 = .ok (.aload_n 1, 1) := by decide +kernel
theorem dX2_appealOffence_1 : decode cX2_appealOffence 1 = .ok (.iconst 1, 1) := by decide +kernel
theorem dX2_appealOffence_2 : decode cX2_appealOffence 2 = .ok (.putfield 89, 3) := by decide +kernel
theorem dX2_appealOffence_5 : decode cX2_appealOffence 5 = .ok (.aload_n 0, 1) := by decide +kernel
theorem dX2_appealOffence_6 : decode cX2_appealOffence 6 = .ok (.dup, 1) := by decide +kernel
theorem dX2_appealOffence_7 : decode cX2_appealOffence 7 = .ok (.getfield 60, 3) := by decide +kernel
theorem dX2_appealOffence_10 : decode cX2_appealOffence 10 = .ok (.aload_n 1, 1) := by decide +kernel
theorem dX2_appealOffence_11 : decode cX2_appealOffence 11 = .ok (.getfield 92, 3) := by decide +kernel
theorem dX2_appealOffence_14 : decode cX2_appealOffence 14 = .ok (.isub, 1) := by decide +kernel
theorem dX2_appealOffence_15 : decode cX2_appealOffence 15 = .ok (.putfield 60, 3) := by decide +kernel
theorem dX2_appealOffence_18 : decode cX2_appealOffence 18 = .ok (.aload_n 1, 1) := by decide +kernel
theorem dX2_appealOffence_19 : decode cX2_appealOffence 19 = .ok (.getfield 95, 3) := by decide +kernel
theorem dX2_appealOffence_22 : decode cX2_appealOffence 22 = .ok (.ifCond .eq 7, 3) := by decide +kernel
theorem dX2_appealOffence_25 : decode cX2_appealOffence 25 = .ok (.aload_n 0, 1) := by decide +kernel
theorem dX2_appealOffence_26 : decode cX2_appealOffence 26 = .ok (.invokevirtual 80, 3) := by decide +kernel
theorem dX2_appealOffence_29 : decode cX2_appealOffence 29 = .ok (.return_, 1) := by decide +kernel
theorem dX2_joinOrder_0 : decode cX2_joinOrder 0 = .ok (.aload_n 0, 1) := by decide +kernel
theorem dX2_joinOrder_1 : decode cX2_joinOrder 1 = .ok (.aload_n 1, 1) := by decide +kernel
theorem dX2_joinOrder_2 : decode cX2_joinOrder 2 = .ok (.putfield 98, 3) := by decide +kernel
theorem dX2_joinOrder_5 : decode cX2_joinOrder 5 = .ok (.aload_n 1, 1) := by decide +kernel
theorem dX2_joinOrder_6 : decode cX2_joinOrder 6 = .ok (.dup, 1) := by decide +kernel
theorem dX2_joinOrder_7 : decode cX2_joinOrder 7 = .ok (.getfield 102, 3) := by decide +kernel
theorem dX2_joinOrder_10 : decode cX2_joinOrder 10 = .ok (.iconst 1, 1) := by decide +kernel
theorem dX2_joinOrder_11 : decode cX2_joinOrder 11 = .ok (.iadd, 1) := by decide +kernel
theorem dX2_joinOrder_12 : decode cX2_joinOrder 12 = .ok (.putfield 102, 3) := by decide +kernel
theorem dX2_joinOrder_15 : decode cX2_joinOrder 15 = .ok (.aload_n 1, 1) := by decide +kernel
theorem dX2_joinOrder_16 : decode cX2_joinOrder 16 = .ok (.getfield 107, 3) := by decide +kernel
theorem dX2_joinOrder_19 : decode cX2_joinOrder 19 = .ok (.dup, 1) := by decide +kernel
theorem dX2_joinOrder_20 : decode cX2_joinOrder 20 = .ok (.getfield 111, 3) := by decide +kernel
theorem dX2_joinOrder_23 : decode cX2_joinOrder 23 = .ok (.iconst 1, 1) := by decide +kernel
theorem dX2_joinOrder_24 : decode cX2_joinOrder 24 = .ok (.iadd, 1) := by decide +kernel
theorem dX2_joinOrder_25 : decode cX2_joinOrder 25 = .ok (.putfield 111, 3) := by decide +kernel
theorem dX2_joinOrder_28 : decode cX2_joinOrder 28 = .ok (.return_, 1) := by decide +kernel
theorem dX2_leaveOrder_0 : decode cX2_leaveOrder 0 = .ok (.aload_n 0, 1) := by decide +kernel
theorem dX2_leaveOrder_1 : decode cX2_leaveOrder 1 = .ok (.getfield 98, 3) := by decide +kernel
theorem dX2_leaveOrder_4 : decode cX2_leaveOrder 4 = .ok (.astore_n 1, 1) := by decide +kernel
theorem dX2_leaveOrder_5 : decode cX2_leaveOrder 5 = .ok (.aload_n 1, 1) := by decide +kernel
theorem dX2_leaveOrder_6 : decode cX2_leaveOrder 6 = .ok (.ifnull 31, 3) := by decide +kernel
theorem dX2_leaveOrder_9 : decode cX2_leaveOrder 9 = .ok (.aload_n 1, 1) := by decide +kernel
theorem dX2_leaveOrder_10 : decode cX2_leaveOrder 10 = .ok (.dup, 1) := by decide +kernel
theorem dX2_leaveOrder_11 : decode cX2_leaveOrder 11 = .ok (.getfield 102, 3) := by decide +kernel
theorem dX2_leaveOrder_14 : decode cX2_leaveOrder 14 = .ok (.iconst 1, 1) := by decide +kernel
theorem dX2_leaveOrder_15 : decode cX2_leaveOrder 15 = .ok (.isub, 1) := by decide +kernel
theorem dX2_leaveOrder_16 : decode cX2_leaveOrder 16 = .ok (.putfield 102, 3) := by decide +kernel
theorem dX2_leaveOrder_19 : decode cX2_leaveOrder 19 = .ok (.aload_n 1, 1) := by decide +kernel
theorem dX2_leaveOrder_20 : decode cX2_leaveOrder 20 = .ok (.getfield 107, 3) := by decide +kernel
theorem dX2_leaveOrder_23 : decode cX2_leaveOrder 23 = .ok (.dup, 1) := by decide +kernel
theorem dX2_leaveOrder_24 : decode cX2_leaveOrder 24 = .ok (.getfield 111, 3) := by decide +kernel
theorem dX2_leaveOrder_27 : decode cX2_leaveOrder 27 = .ok (.iconst 1, 1) := by decide +kernel
theorem dX2_leaveOrder_28 : decode cX2_leaveOrder 28 = .ok (.isub, 1) := by decide +kernel
theorem dX2_leaveOrder_29 : decode cX2_leaveOrder 29 = .ok (.putfield 111, 3) := by decide +kernel
theorem dX2_leaveOrder_32 : decode cX2_leaveOrder 32 = .ok (.aload_n 0, 1) := by decide +kernel
theorem dX2_leaveOrder_33 : decode cX2_leaveOrder 33 = .ok (.aconst_null, 1) := by decide +kernel
theorem dX2_leaveOrder_34 : decode cX2_leaveOrder 34 = .ok (.putfield 98, 3) := by decide +kernel
theorem dX2_leaveOrder_37 : decode cX2_leaveOrder 37 = .ok (.return_, 1) := by decide +kernel
set_option maxRecDepth 20000 in
theorem ggX2_leaveFinishedOrder_X1_isFinished : GoodIn wsX2_leaveFinishedOrder wsX1_isFinished := goodIn_r _ [6, 7, 30, 31, 32, 33, 34, 35] (by decide +kernel) (by decide +kernel)
set_option maxRecDepth 20000 in
theorem gX2_leaveFinishedOrder_X1_isFinished : GoodIn wsX2_leaveFinishedOrder (wsV RX2 116 RX1 yX1_isFinished wsX1_isFinished) := goodIn_app (goodIn_of _ (by decide +kernel)) ggX2_leaveFinishedOrder_X1_isFinished
set_option maxRecDepth 20000 in
theorem ggX2_leaveFinishedOrder_X2_leaveOrder : GoodIn wsX2_leaveFinishedOrder wsX2_leaveOrder := goodIn_r _ [12, 1, 13, 14, 15, 16, 17, 18, 19, 20, 21, 22, 23, 24, 25, 26, 27, 28, 29, 30, 31, 32, 33, 34, 35, 36, 37] (by decide +kernel) (by decide +kernel)
set_option maxRecDepth 20000 in
theorem gX2_leaveFinishedOrder_X2_leaveOrder : GoodIn wsX2_leaveFinishedOrder (wsV RX2 86 RX2 yX2_leaveOrder wsX2_leaveOrder) := goodIn_app (goodIn_of _ (by decide +kernel)) ggX2_leaveFinishedOrder_X2_leaveOrder
theorem dX2_leaveFinishedOrder_0 : decode cX2_leaveFinishedOrder 0 = .ok (.aload_n 0, 1) := by decide +kernel
theorem dX2_leaveFinishedOrder_1 : decode cX2_leaveFinishedOrder 1 = .ok (.getfield 98, 3) := by decide +kernel
theorem dX2_leaveFinishedOrder_4 : decode cX2_leaveFinishedOrder 4 = .ok (.astore_n 1, 1) := by decide +kernel
theorem dX2_leaveFinishedOrder_5 : decode cX2_leaveFinishedOrder 5 = .ok (.aload_n 1, 1) := by decide +kernel
theorem dX2_leaveFinishedOrder_6 : decode cX2_leaveFinishedOrder 6 = .ok (.ifnull 14, 3) := by decide +kernel
theorem dX2_leaveFinishedOrder_9 : decode cX2_leaveFinishedOrder 9 = .ok (.aload_n 1, 1) := by decide +kernel
theorem dX2_leaveFinishedOrder_10 : decode cX2_leaveFinishedOrder 10 = .ok (.invokevirtual 116, 3) := by decide +kernel
theorem dX2_leaveFinishedOrder_13 : decode cX2_leaveFinishedOrder 13 = .ok (.ifCond .eq 7, 3) := by decide +kernel
theorem dX2_leaveFinishedOrder_16 : decode cX2_leaveFinishedOrder 16 = .ok (.aload_n 0, 1) := by decide +kernel
theorem dX2_leaveFinishedOrder_17 : decode cX2_leaveFinishedOrder 17 = .ok (.invokevirtual 86, 3) := by decide +kernel
theorem dX2_leaveFinishedOrder_20 : decode cX2_leaveFinishedOrder 20 = .ok (.return_, 1) := by decide +kernel
set_option maxRecDepth 20000 in
theorem ggX2_workOneDay_X1_isFinished : GoodIn wsX2_workOneDay wsX1_isFinished := goodIn_r _ [10, 11, 32, 33, 34, 35, 36, 37] (by decide +kernel) (by decide +kernel)
set_option maxRecDepth 20000 in
theorem gX2_workOneDay_X1_isFinished : GoodIn wsX2_workOneDay (wsV RX2 116 RX1 yX1_isFinished wsX1_isFinished) := goodIn_app (goodIn_of _ (by decide +kernel)) ggX2_workOneDay_X1_isFinished
set_option maxRecDepth 20000 in
theorem ggX2_workOneDay_X3_partWage : GoodIn wsX2_workOneDay wsX3_partWage := goodIn_r _ [16, 17, 38, 39, 40, 41] (by decide +kernel) (by decide +kernel)
set_option maxRecDepth 20000 in
theorem gX2_workOneDay_X3_partWage : GoodIn wsX2_workOneDay (wsV RX2 125 RX3 yX3_partWage wsX3_partWage) := goodIn_app (goodIn_of _ (by decide +kernel)) ggX2_workOneDay_X3_partWage
theorem dX2_workOneDay_0 : decode cX2_workOneDay 0 = .ok (.aload_n 0, 1) := by decide +kernel
theorem dX2_workOneDay_1 : decode cX2_workOneDay 1 = .ok (.getfield 98, 3) := by decide +kernel
theorem dX2_workOneDay_4 : decode cX2_workOneDay 4 = .ok (.astore_n 1, 1) := by decide +kernel
theorem dX2_workOneDay_5 : decode cX2_workOneDay 5 = .ok (.aload_n 1, 1) := by decide +kernel
theorem dX2_workOneDay_6 : decode cX2_workOneDay 6 = .ok (.ifnull 41, 3) := by decide +kernel
theorem dX2_workOneDay_9 : decode cX2_workOneDay 9 = .ok (.aload_n 1, 1) := by decide +kernel
theorem dX2_workOneDay_10 : decode cX2_workOneDay 10 = .ok (.invokevirtual 116, 3) := by decide +kernel
theorem dX2_workOneDay_13 : decode cX2_workOneDay 13 = .ok (.ifCond .ne 34, 3) := by decide +kernel
theorem dX2_workOneDay_16 : decode cX2_workOneDay 16 = .ok (.aload_n 1, 1) := by decide +kernel
theorem dX2_workOneDay_17 : decode cX2_workOneDay 17 = .ok (.dup, 1) := by decide +kernel
theorem dX2_workOneDay_18 : decode cX2_workOneDay 18 = .ok (.getfield 119, 3) := by decide +kernel
theorem dX2_workOneDay_21 : decode cX2_workOneDay 21 = .ok (.iconst 1, 1) := by decide +kernel
theorem dX2_workOneDay_22 : decode cX2_workOneDay 22 = .ok (.isub, 1) := by decide +kernel
theorem dX2_workOneDay_23 : decode cX2_workOneDay 23 = .ok (.putfield 119, 3) := by decide +kernel
theorem dX2_workOneDay_26 : decode cX2_workOneDay 26 = .ok (.aload_n 0, 1) := by decide +kernel
theorem dX2_workOneDay_27 : decode cX2_workOneDay 27 = .ok (.dup, 1) := by decide +kernel
theorem dX2_workOneDay_28 : decode cX2_workOneDay 28 = .ok (.getfield 37, 3) := by decide +kernel
theorem dX2_workOneDay_31 : decode cX2_workOneDay 31 = .ok (.iconst 1, 1) := by decide +kernel
theorem dX2_workOneDay_32 : decode cX2_workOneDay 32 = .ok (.iadd, 1) := by decide +kernel
theorem dX2_workOneDay_33 : decode cX2_workOneDay 33 = .ok (.putfield 37, 3) := by decide +kernel
theorem dX2_workOneDay_36 : decode cX2_workOneDay 36 = .ok (.aload_n 0, 1) := by decide +kernel
theorem dX2_workOneDay_37 : decode cX2_workOneDay 37 = .ok (.getfield 24, 3) := by decide +kernel
theorem dX2_workOneDay_40 : decode cX2_workOneDay 40 = .ok (.aload_n 1, 1) := by decide +kernel
theorem dX2_workOneDay_41 : decode cX2_workOneDay 41 = .ok (.getfield 122, 3) := by decide +kernel
theorem dX2_workOneDay_44 : decode cX2_workOneDay 44 = .ok (.invokevirtual 125, 3) := by decide +kernel
theorem dX2_workOneDay_47 : decode cX2_workOneDay 47 = .ok (.return_, 1) := by decide +kernel
set_option maxRecDepth 20000 in
theorem ggX2_limitOfSpan_X0_lowersLimitOn : GoodIn wsX2_limitOfSpan wsX0_lowersLimitOn := goodIn_r _ [11, 12, 13, 28, 29, 30, 31] (by decide +kernel) (by decide +kernel)
set_option maxRecDepth 20000 in
theorem gX2_limitOfSpan_X0_lowersLimitOn : GoodIn wsX2_limitOfSpan (wsV RX2 129 RX0 yX0_lowersLimitOn wsX0_lowersLimitOn) := goodIn_app (goodIn_of _ (by decide +kernel)) ggX2_limitOfSpan_X0_lowersLimitOn
theorem dX2_limitOfSpan_0 : decode cX2_limitOfSpan 0 = .ok (.bipush 20, 2) := by decide +kernel
theorem dX2_limitOfSpan_2 : decode cX2_limitOfSpan 2 = .ok (.aload_n 0, 1) := by decide +kernel
theorem dX2_limitOfSpan_3 : decode cX2_limitOfSpan 3 = .ok (.getfield 9, 3) := by decide +kernel
theorem dX2_limitOfSpan_6 : decode cX2_limitOfSpan 6 = .ok (.imul, 1) := by decide +kernel
theorem dX2_limitOfSpan_7 : decode cX2_limitOfSpan 7 = .ok (.bipush 10, 2) := by decide +kernel
theorem dX2_limitOfSpan_9 : decode cX2_limitOfSpan 9 = .ok (.iadd, 1) := by decide +kernel
theorem dX2_limitOfSpan_10 : decode cX2_limitOfSpan 10 = .ok (.istore_n 2, 1) := by decide +kernel
theorem dX2_limitOfSpan_11 : decode cX2_limitOfSpan 11 = .ok (.aload_n 0, 1) := by decide +kernel
theorem dX2_limitOfSpan_12 : decode cX2_limitOfSpan 12 = .ok (.getfield 17, 3) := by decide +kernel
theorem dX2_limitOfSpan_15 : decode cX2_limitOfSpan 15 = .ok (.astore_n 3, 1) := by decide +kernel
theorem dX2_limitOfSpan_16 : decode cX2_limitOfSpan 16 = .ok (.aload_n 3, 1) := by decide +kernel
theorem dX2_limitOfSpan_17 : decode cX2_limitOfSpan 17 = .ok (.arraylength, 1) := by decide +kernel
theorem dX2_limitOfSpan_18 : decode cX2_limitOfSpan 18 = .ok (.istore 4, 2) := by decide +kernel
theorem dX2_limitOfSpan_20 : decode cX2_limitOfSpan 20 = .ok (.iconst 0, 1) := by decide +kernel
theorem dX2_limitOfSpan_21 : decode cX2_limitOfSpan 21 = .ok (.istore 5, 2) := by decide +kernel
theorem dX2_limitOfSpan_23 : decode cX2_limitOfSpan 23 = .ok (.iload 5, 2) := by decide +kernel
theorem dX2_limitOfSpan_25 : decode cX2_limitOfSpan 25 = .ok (.iload 4, 2) := by decide +kernel
theorem dX2_limitOfSpan_27 : decode cX2_limitOfSpan 27 = .ok (.if_icmp .ge 32, 3) := by decide +kernel
theorem dX2_limitOfSpan_30 : decode cX2_limitOfSpan 30 = .ok (.aload_n 3, 1) := by decide +kernel
theorem dX2_limitOfSpan_31 : decode cX2_limitOfSpan 31 = .ok (.iload 5, 2) := by decide +kernel
theorem dX2_limitOfSpan_33 : decode cX2_limitOfSpan 33 = .ok (.aaload, 1) := by decide +kernel
theorem dX2_limitOfSpan_34 : decode cX2_limitOfSpan 34 = .ok (.astore 6, 2) := by decide +kernel
theorem dX2_limitOfSpan_36 : decode cX2_limitOfSpan 36 = .ok (.aload 6, 2) := by decide +kernel
theorem dX2_limitOfSpan_38 : decode cX2_limitOfSpan 38 = .ok (.ifnull 15, 3) := by decide +kernel
theorem dX2_limitOfSpan_41 : decode cX2_limitOfSpan 41 = .ok (.aload 6, 2) := by decide +kernel
theorem dX2_limitOfSpan_43 : decode cX2_limitOfSpan 43 = .ok (.iload_n 1, 1) := by decide +kernel
theorem dX2_limitOfSpan_44 : decode cX2_limitOfSpan 44 = .ok (.invokevirtual 129, 3) := by decide +kernel
theorem dX2_limitOfSpan_47 : decode cX2_limitOfSpan 47 = .ok (.ifCond .eq 6, 3) := by decide +kernel
theorem dX2_limitOfSpan_50 : decode cX2_limitOfSpan 50 = .ok (.iinc 2 (-5), 3) := by decide +kernel
theorem dX2_limitOfSpan_53 : decode cX2_limitOfSpan 53 = .ok (.iinc 5 1, 3) := by decide +kernel
theorem dX2_limitOfSpan_56 : decode cX2_limitOfSpan 56 = .ok (.goto (-33), 3) := by decide +kernel
theorem dX2_limitOfSpan_59 : decode cX2_limitOfSpan 59 = .ok (.iload_n 2, 1) := by decide +kernel
theorem dX2_limitOfSpan_60 : decode cX2_limitOfSpan 60 = .ok (.iconst 0, 1) := by decide +kernel
theorem dX2_limitOfSpan_61 : decode cX2_limitOfSpan 61 = .ok (.invokestatic 133, 3) := by decide +kernel
theorem dX2_limitOfSpan_64 : decode cX2_limitOfSpan 64 = .ok (.ireturn, 1) := by decide +kernel
set_option maxRecDepth 20000 in
theorem ggX2_mayStillBuy_X2_limitOfSpan : GoodIn wsX2_mayStillBuy wsX2_limitOfSpan := goodIn_r _ [11, 12, 13, 3, 4, 5, 6, 14, 15, 16, 17, 18, 19, 20, 28, 29, 30, 31, 32, 33, 34, 35, 36, 37, 38, 39, 40, 41, 42, 43, 44, 45] (by decide +kernel) (by decide +kernel)
set_option maxRecDepth 20000 in
theorem gX2_mayStillBuy_X2_limitOfSpan : GoodIn wsX2_mayStillBuy (wsV RX2 136 RX2 yX2_limitOfSpan wsX2_limitOfSpan) := goodIn_app (goodIn_of _ (by decide +kernel)) ggX2_mayStillBuy_X2_limitOfSpan
set_option maxRecDepth 20000 in
theorem ggX2_mayStillBuy_X3_boughtInSpan : GoodIn wsX2_mayStillBuy wsX3_boughtInSpan := goodIn_r _ [25, 26, 27, 46, 47, 48, 49] (by decide +kernel) (by decide +kernel)
set_option maxRecDepth 20000 in
theorem gX2_mayStillBuy_X3_boughtInSpan : GoodIn wsX2_mayStillBuy (wsV RX2 140 RX3 yX3_boughtInSpan wsX3_boughtInSpan) := goodIn_app (goodIn_of _ (by decide +kernel)) ggX2_mayStillBuy_X3_boughtInSpan
theorem dX2_mayStillBuy_0 : decode cX2_mayStillBuy 0 = .ok (.aload_n 0, 1) := by decide +kernel
theorem dX2_mayStillBuy_1 : decode cX2_mayStillBuy 1 = .ok (.getfield 43, 3) := by decide +kernel
theorem dX2_mayStillBuy_4 : decode cX2_mayStillBuy 4 = .ok (.ifCond .eq 5, 3) := by decide +kernel
theorem dX2_mayStillBuy_7 : decode cX2_mayStillBuy 7 = .ok (.iconst 0, 1) := by decide +kernel
theorem dX2_mayStillBuy_8 : decode cX2_mayStillBuy 8 = .ok (.ireturn, 1) := by decide +kernel
theorem dX2_mayStillBuy_9 : decode cX2_mayStillBuy 9 = .ok (.aload_n 0, 1) := by decide +kernel
theorem dX2_mayStillBuy_10 : decode cX2_mayStillBuy 10 = .ok (.iload_n 1, 1) := by decide +kernel
theorem dX2_mayStillBuy_11 : decode cX2_mayStillBuy 11 = .ok (.invokevirtual 136, 3) := by decide +kernel
theorem dX2_mayStillBuy_14 : decode cX2_mayStillBuy 14 = .ok (.aload_n 0, 1) := by decide +kernel
theorem dX2_mayStillBuy_15 : decode cX2_mayStillBuy 15 = .ok (.getfield 24, 3) := by decide +kernel
theorem dX2_mayStillBuy_18 : decode cX2_mayStillBuy 18 = .ok (.iload_n 1, 1) := by decide +kernel
theorem dX2_mayStillBuy_19 : decode cX2_mayStillBuy 19 = .ok (.bipush 7, 2) := by decide +kernel
theorem dX2_mayStillBuy_21 : decode cX2_mayStillBuy 21 = .ok (.idiv, 1) := by decide +kernel
theorem dX2_mayStillBuy_22 : decode cX2_mayStillBuy 22 = .ok (.invokevirtual 140, 3) := by decide +kernel
theorem dX2_mayStillBuy_25 : decode cX2_mayStillBuy 25 = .ok (.isub, 1) := by decide +kernel
theorem dX2_mayStillBuy_26 : decode cX2_mayStillBuy 26 = .ok (.iconst 0, 1) := by decide +kernel
theorem dX2_mayStillBuy_27 : decode cX2_mayStillBuy 27 = .ok (.invokestatic 133, 3) := by decide +kernel
theorem dX2_mayStillBuy_30 : decode cX2_mayStillBuy 30 = .ok (.ireturn, 1) := by decide +kernel
set_option maxRecDepth 20000 in
theorem ggX2_isDue_X2_releaseDay : GoodIn wsX2_isDue wsX2_releaseDay := goodIn_r _ [6, 1, 7, 8, 9, 10, 11, 12, 13, 14, 15, 16, 17, 5, 18, 19, 20, 21, 22, 23, 24, 25, 26, 27, 28, 29, 30, 31, 32, 33, 34] (by decide +kernel) (by decide +kernel)
set_option maxRecDepth 20000 in
theorem gX2_isDue_X2_releaseDay : GoodIn wsX2_isDue (wsV RX2 143 RX2 yX2_releaseDay wsX2_releaseDay) := goodIn_app (goodIn_of _ (by decide +kernel)) ggX2_isDue_X2_releaseDay
theorem dX2_isDue_0 : decode cX2_isDue 0 = .ok (.aload_n 0, 1) := by decide +kernel
theorem dX2_isDue_1 : decode cX2_isDue 1 = .ok (.getfield 43, 3) := by decide +kernel
theorem dX2_isDue_4 : decode cX2_isDue 4 = .ok (.ifCond .ne 15, 3) := by decide +kernel
theorem dX2_isDue_7 : decode cX2_isDue 7 = .ok (.aload_n 0, 1) := by decide +kernel
theorem dX2_isDue_8 : decode cX2_isDue 8 = .ok (.invokevirtual 143, 3) := by decide +kernel
theorem dX2_isDue_11 : decode cX2_isDue 11 = .ok (.iload_n 1, 1) := by decide +kernel
theorem dX2_isDue_12 : decode cX2_isDue 12 = .ok (.if_icmp .gt 7, 3) := by decide +kernel
theorem dX2_isDue_15 : decode cX2_isDue 15 = .ok (.iconst 1, 1) := by decide +kernel
theorem dX2_isDue_16 : decode cX2_isDue 16 = .ok (.goto 4, 3) := by decide +kernel
theorem dX2_isDue_19 : decode cX2_isDue 19 = .ok (.iconst 0, 1) := by decide +kernel
theorem dX2_isDue_20 : decode cX2_isDue 20 = .ok (.ireturn, 1) := by decide +kernel
set_option maxRecDepth 20000 in
theorem ggX2_letGo_X2_leaveOrder : GoodIn wsX2_letGo wsX2_leaveOrder := goodIn_r _ [8, 9, 10, 11, 12, 20, 21, 22, 23, 24, 25, 26, 27, 28, 29, 30, 31, 32, 33, 34, 35, 36, 37, 38, 39, 40, 41] (by decide +kernel) (by decide +kernel)
set_option maxRecDepth 20000 in
theorem gX2_letGo_X2_leaveOrder : GoodIn wsX2_letGo (wsV RX2 86 RX2 yX2_leaveOrder wsX2_leaveOrder) := goodIn_app (goodIn_of _ (by decide +kernel)) ggX2_letGo_X2_leaveOrder
set_option maxRecDepth 20000 in
theorem ggX2_letGo_X3_payOut : GoodIn wsX2_letGo wsX3_payOut := goodIn_r _ [17, 18, 19, 42, 43, 44, 45] (by decide +kernel) (by decide +kernel)
set_option maxRecDepth 20000 in
theorem gX2_letGo_X3_payOut : GoodIn wsX2_letGo (wsV RX2 146 RX3 yX3_payOut wsX3_payOut) := goodIn_app (goodIn_of _ (by decide +kernel)) ggX2_letGo_X3_payOut
theorem dX2_letGo_0 : decode cX2_letGo 0 = .ok (.aload_n 0, 1) := by decide +kernel
theorem dX2_letGo_1 : decode cX2_letGo 1 = .ok (.invokevirtual 86, 3) := by decide +kernel
theorem dX2_letGo_4 : decode cX2_letGo 4 = .ok (.aload_n 0, 1) := by decide +kernel
theorem dX2_letGo_5 : decode cX2_letGo 5 = .ok (.getfield 24, 3) := by decide +kernel
theorem dX2_letGo_8 : decode cX2_letGo 8 = .ok (.invokevirtual 146, 3) := by decide +kernel
theorem dX2_letGo_11 : decode cX2_letGo 11 = .ok (.aload_n 0, 1) := by decide +kernel
theorem dX2_letGo_12 : decode cX2_letGo 12 = .ok (.iload_n 1, 1) := by decide +kernel
theorem dX2_letGo_13 : decode cX2_letGo 13 = .ok (.putfield 47, 3) := by decide +kernel
theorem dX2_letGo_16 : decode cX2_letGo 16 = .ok (.aload_n 0, 1) := by decide +kernel
theorem dX2_letGo_17 : decode cX2_letGo 17 = .ok (.iconst 1, 1) := by decide +kernel
theorem dX2_letGo_18 : decode cX2_letGo 18 = .ok (.putfield 43, 3) := by decide +kernel
theorem dX2_letGo_21 : decode cX2_letGo 21 = .ok (.return_, 1) := by decide +kernel
theorem dX3_init_0 : decode cX3_init 0 = .ok (.aload_n 0, 1) := by decide +kernel
theorem dX3_init_1 : decode cX3_init 1 = .ok (.invokespecial 3, 3) := by decide +kernel
theorem dX3_init_4 : decode cX3_init 4 = .ok (.aload_n 0, 1) := by decide +kernel
theorem dX3_init_5 : decode cX3_init 5 = .ok (.iconst 4, 1) := by decide +kernel
theorem dX3_init_6 : decode cX3_init 6 = .ok (.newarray .int, 2) := by decide +kernel
theorem dX3_init_8 : decode cX3_init 8 = .ok (.putfield 9, 3) := by decide +kernel
theorem dX3_init_11 : decode cX3_init 11 = .ok (.return_, 1) := by decide +kernel
theorem dX3_partWage_0 : decode cX3_partWage 0 = .ok (.iload_n 1, 1) := by decide +kernel
theorem dX3_partWage_1 : decode cX3_partWage 1 = .ok (.bipush 30, 2) := by decide +kernel
theorem dX3_partWage_3 : decode cX3_partWage 3 = .ok (.imul, 1) := by decide +kernel
theorem dX3_partWage_4 : decode cX3_partWage 4 = .ok (.bipush 100, 2) := by decide +kernel
theorem dX3_partWage_6 : decode cX3_partWage 6 = .ok (.idiv, 1) := by decide +kernel
theorem dX3_partWage_7 : decode cX3_partWage 7 = .ok (.istore_n 2, 1) := by decide +kernel
theorem dX3_partWage_8 : decode cX3_partWage 8 = .ok (.iload_n 1, 1) := by decide +kernel
theorem dX3_partWage_9 : decode cX3_partWage 9 = .ok (.bipush 20, 2) := by decide +kernel
theorem dX3_partWage_11 : decode cX3_partWage 11 = .ok (.imul, 1) := by decide +kernel
theorem dX3_partWage_12 : decode cX3_partWage 12 = .ok (.bipush 100, 2) := by decide +kernel
theorem dX3_partWage_14 : decode cX3_partWage 14 = .ok (.idiv, 1) := by decide +kernel
theorem dX3_partWage_15 : decode cX3_partWage 15 = .ok (.istore_n 3, 1) := by decide +kernel
theorem dX3_partWage_16 : decode cX3_partWage 16 = .ok (.iload_n 1, 1) := by decide +kernel
theorem dX3_partWage_17 : decode cX3_partWage 17 = .ok (.bipush 30, 2) := by decide +kernel
theorem dX3_partWage_19 : decode cX3_partWage 19 = .ok (.imul, 1) := by decide +kernel
theorem dX3_partWage_20 : decode cX3_partWage 20 = .ok (.bipush 100, 2) := by decide +kernel
theorem dX3_partWage_22 : decode cX3_partWage 22 = .ok (.idiv, 1) := by decide +kernel
theorem dX3_partWage_23 : decode cX3_partWage 23 = .ok (.istore 4, 2) := by decide +kernel
theorem dX3_partWage_25 : decode cX3_partWage 25 = .ok (.aload_n 0, 1) := by decide +kernel
theorem dX3_partWage_26 : decode cX3_partWage 26 = .ok (.getfield 9, 3) := by decide +kernel
theorem dX3_partWage_29 : decode cX3_partWage 29 = .ok (.iconst 0, 1) := by decide +kernel
theorem dX3_partWage_30 : decode cX3_partWage 30 = .ok (.dup2, 1) := by decide +kernel
theorem dX3_partWage_31 : decode cX3_partWage 31 = .ok (.iaload, 1) := by decide +kernel
theorem dX3_partWage_32 : decode cX3_partWage 32 = .ok (.iload_n 2, 1) := by decide +kernel
theorem dX3_partWage_33 : decode cX3_partWage 33 = .ok (.iadd, 1) := by decide +kernel
theorem dX3_partWage_34 : decode cX3_partWage 34 = .ok (.iastore, 1) := by decide +kernel
theorem dX3_partWage_35 : decode cX3_partWage 35 = .ok (.aload_n 0, 1) := by decide +kernel
theorem dX3_partWage_36 : decode cX3_partWage 36 = .ok (.getfield 9, 3) := by decide +kernel
theorem dX3_partWage_39 : decode cX3_partWage 39 = .ok (.iconst 1, 1) := by decide +kernel
theorem dX3_partWage_40 : decode cX3_partWage 40 = .ok (.dup2, 1) := by decide +kernel
theorem dX3_partWage_41 : decode cX3_partWage 41 = .ok (.iaload, 1) := by decide +kernel
theorem dX3_partWage_42 : decode cX3_partWage 42 = .ok (.iload_n 3, 1) := by decide +kernel
theorem dX3_partWage_43 : decode cX3_partWage 43 = .ok (.iadd, 1) := by decide +kernel
theorem dX3_partWage_44 : decode cX3_partWage 44 = .ok (.iastore, 1) := by decide +kernel
theorem dX3_partWage_45 : decode cX3_partWage 45 = .ok (.aload_n 0, 1) := by decide +kernel
theorem dX3_partWage_46 : decode cX3_partWage 46 = .ok (.getfield 9, 3) := by decide +kernel
theorem dX3_partWage_49 : decode cX3_partWage 49 = .ok (.iconst 2, 1) := by decide +kernel
theorem dX3_partWage_50 : decode cX3_partWage 50 = .ok (.dup2, 1) := by decide +kernel
theorem dX3_partWage_51 : decode cX3_partWage 51 = .ok (.iaload, 1) := by decide +kernel
theorem dX3_partWage_52 : decode cX3_partWage 52 = .ok (.iload 4, 2) := by decide +kernel
theorem dX3_partWage_54 : decode cX3_partWage 54 = .ok (.iadd, 1) := by decide +kernel
theorem dX3_partWage_55 : decode cX3_partWage 55 = .ok (.iastore, 1) := by decide +kernel
theorem dX3_partWage_56 : decode cX3_partWage 56 = .ok (.aload_n 0, 1) := by decide +kernel
theorem dX3_partWage_57 : decode cX3_partWage 57 = .ok (.getfield 9, 3) := by decide +kernel
theorem dX3_partWage_60 : decode cX3_partWage 60 = .ok (.iconst 3, 1) := by decide +kernel
theorem dX3_partWage_61 : decode cX3_partWage 61 = .ok (.dup2, 1) := by decide +kernel
theorem dX3_partWage_62 : decode cX3_partWage 62 = .ok (.iaload, 1) := by decide +kernel
theorem dX3_partWage_63 : decode cX3_partWage 63 = .ok (.iload_n 1, 1) := by decide +kernel
theorem dX3_partWage_64 : decode cX3_partWage 64 = .ok (.iload_n 2, 1) := by decide +kernel
theorem dX3_partWage_65 : decode cX3_partWage 65 = .ok (.isub, 1) := by decide +kernel
theorem dX3_partWage_66 : decode cX3_partWage 66 = .ok (.iload_n 3, 1) := by decide +kernel
theorem dX3_partWage_67 : decode cX3_partWage 67 = .ok (.isub, 1) := by decide +kernel
theorem dX3_partWage_68 : decode cX3_partWage 68 = .ok (.iload 4, 2) := by decide +kernel
theorem dX3_partWage_70 : decode cX3_partWage 70 = .ok (.isub, 1) := by decide +kernel
theorem dX3_partWage_71 : decode cX3_partWage 71 = .ok (.iadd, 1) := by decide +kernel
theorem dX3_partWage_72 : decode cX3_partWage 72 = .ok (.iastore, 1) := by decide +kernel
theorem dX3_partWage_73 : decode cX3_partWage 73 = .ok (.return_, 1) := by decide +kernel
theorem dX3_boughtInSpan_0 : decode cX3_boughtInSpan 0 = .ok (.iload_n 1, 1) := by decide +kernel
theorem dX3_boughtInSpan_1 : decode cX3_boughtInSpan 1 = .ok (.aload_n 0, 1) := by decide +kernel
theorem dX3_boughtInSpan_2 : decode cX3_boughtInSpan 2 = .ok (.getfield 15, 3) := by decide +kernel
theorem dX3_boughtInSpan_5 : decode cX3_boughtInSpan 5 = .ok (.if_icmp .ne 10, 3) := by decide +kernel
theorem dX3_boughtInSpan_8 : decode cX3_boughtInSpan 8 = .ok (.aload_n 0, 1) := by decide +kernel
theorem dX3_boughtInSpan_9 : decode cX3_boughtInSpan 9 = .ok (.getfield 19, 3) := by decide +kernel
theorem dX3_boughtInSpan_12 : decode cX3_boughtInSpan 12 = .ok (.goto 4, 3) := by decide +kernel
theorem dX3_boughtInSpan_15 : decode cX3_boughtInSpan 15 = .ok (.iconst 0, 1) := by decide +kernel
theorem dX3_boughtInSpan_16 : decode cX3_boughtInSpan 16 = .ok (.ireturn, 1) := by decide +kernel
set_option maxRecDepth 20000 in
theorem ggX3_spend_X3_boughtInSpan : GoodIn wsX3_spend wsX3_boughtInSpan := goodIn_r _ [8, 2, 1, 9, 10, 11, 12] (by decide +kernel) (by decide +kernel)
set_option maxRecDepth 20000 in
theorem gX3_spend_X3_boughtInSpan : GoodIn wsX3_spend (wsV RX3 22 RX3 yX3_boughtInSpan wsX3_boughtInSpan) := goodIn_app (goodIn_of _ (by decide +kernel)) ggX3_spend_X3_boughtInSpan
theorem dX3_spend_0 : decode cX3_spend 0 = .ok (.aload_n 0, 1) := by decide +kernel
theorem dX3_spend_1 : decode cX3_spend 1 = .ok (.aload_n 0, 1) := by decide +kernel
theorem dX3_spend_2 : decode cX3_spend 2 = .ok (.iload_n 2, 1) := by decide +kernel
theorem dX3_spend_3 : decode cX3_spend 3 = .ok (.invokevirtual 22, 3) := by decide +kernel
theorem dX3_spend_6 : decode cX3_spend 6 = .ok (.iload_n 1, 1) := by decide +kernel
theorem dX3_spend_7 : decode cX3_spend 7 = .ok (.iadd, 1) := by decide +kernel
theorem dX3_spend_8 : decode cX3_spend 8 = .ok (.putfield 19, 3) := by decide +kernel
theorem dX3_spend_11 : decode cX3_spend 11 = .ok (.aload_n 0, 1) := by decide +kernel
theorem dX3_spend_12 : decode cX3_spend 12 = .ok (.iload_n 2, 1) := by decide +kernel
theorem dX3_spend_13 : decode cX3_spend 13 = .ok (.putfield 15, 3) := by decide +kernel
theorem dX3_spend_16 : decode cX3_spend 16 = .ok (.aload_n 0, 1) := by decide +kernel
theorem dX3_spend_17 : decode cX3_spend 17 = .ok (.getfield 9, 3) := by decide +kernel
theorem dX3_spend_20 : decode cX3_spend 20 = .ok (.iconst 3, 1) := by decide +kernel
theorem dX3_spend_21 : decode cX3_spend 21 = .ok (.dup2, 1) := by decide +kernel
theorem dX3_spend_22 : decode cX3_spend 22 = .ok (.iaload, 1) := by decide +kernel
theorem dX3_spend_23 : decode cX3_spend 23 = .ok (.iload_n 1, 1) := by decide +kernel
theorem dX3_spend_24 : decode cX3_spend 24 = .ok (.isub, 1) := by decide +kernel
theorem dX3_spend_25 : decode cX3_spend 25 = .ok (.iastore, 1) := by decide +kernel
theorem dX3_spend_26 : decode cX3_spend 26 = .ok (.return_, 1) := by decide +kernel
theorem dX3_payOut_0 : decode cX3_payOut 0 = .ok (.aload_n 0, 1) := by decide +kernel
theorem dX3_payOut_1 : decode cX3_payOut 1 = .ok (.aload_n 0, 1) := by decide +kernel
theorem dX3_payOut_2 : decode cX3_payOut 2 = .ok (.getfield 9, 3) := by decide +kernel
theorem dX3_payOut_5 : decode cX3_payOut 5 = .ok (.iconst 2, 1) := by decide +kernel
theorem dX3_payOut_6 : decode cX3_payOut 6 = .ok (.iaload, 1) := by decide +kernel
theorem dX3_payOut_7 : decode cX3_payOut 7 = .ok (.aload_n 0, 1) := by decide +kernel
theorem dX3_payOut_8 : decode cX3_payOut 8 = .ok (.getfield 9, 3) := by decide +kernel
theorem dX3_payOut_11 : decode cX3_payOut 11 = .ok (.iconst 3, 1) := by decide +kernel
theorem dX3_payOut_12 : decode cX3_payOut 12 = .ok (.iaload, 1) := by decide +kernel
theorem dX3_payOut_13 : decode cX3_payOut 13 = .ok (.iadd, 1) := by decide +kernel
theorem dX3_payOut_14 : decode cX3_payOut 14 = .ok (.putfield 26, 3) := by decide +kernel
theorem dX3_payOut_17 : decode cX3_payOut 17 = .ok (.aload_n 0, 1) := by decide +kernel
theorem dX3_payOut_18 : decode cX3_payOut 18 = .ok (.getfield 9, 3) := by decide +kernel
theorem dX3_payOut_21 : decode cX3_payOut 21 = .ok (.iconst 2, 1) := by decide +kernel
theorem dX3_payOut_22 : decode cX3_payOut 22 = .ok (.iconst 0, 1) := by decide +kernel
theorem dX3_payOut_23 : decode cX3_payOut 23 = .ok (.iastore, 1) := by decide +kernel
theorem dX3_payOut_24 : decode cX3_payOut 24 = .ok (.aload_n 0, 1) := by decide +kernel
theorem dX3_payOut_25 : decode cX3_payOut 25 = .ok (.getfield 9, 3) := by decide +kernel
theorem dX3_payOut_28 : decode cX3_payOut 28 = .ok (.iconst 3, 1) := by decide +kernel
theorem dX3_payOut_29 : decode cX3_payOut 29 = .ok (.iconst 0, 1) := by decide +kernel
theorem dX3_payOut_30 : decode cX3_payOut 30 = .ok (.iastore, 1) := by decide +kernel
theorem dX3_payOut_31 : decode cX3_payOut 31 = .ok (.return_, 1) := by decide +kernel
theorem dX4_init_0 : decode cX4_init 0 = .ok (.aload_n 0, 1) := by decide +kernel
theorem dX4_init_1 : decode cX4_init 1 = .ok (.invokespecial 1, 3) := by decide +kernel
theorem dX4_init_4 : decode cX4_init 4 = .ok (.return_, 1) := by decide +kernel
set_option maxRecDepth 20000 in
theorem ggX5_init_X4_init : GoodIn wsX5_init wsX4_init := goodIn_r _ [13, 14, 2, 3] (by decide +kernel) (by decide +kernel)
set_option maxRecDepth 20000 in
theorem gX5_init_X4_init_n27 : GoodIn wsX5_init (wsX4_init) := ggX5_init_X4_init
theorem dX5_init_0 : decode cX5_init 0 = .ok (.aload_n 0, 1) := by decide +kernel
theorem dX5_init_1 : decode cX5_init 1 = .ok (.invokespecial 1, 3) := by decide +kernel
theorem dX5_init_4 : decode cX5_init 4 = .ok (.aload_n 0, 1) := by decide +kernel
theorem dX5_init_5 : decode cX5_init 5 = .ok (.bipush 10, 2) := by decide +kernel
theorem dX5_init_7 : decode cX5_init 7 = .ok (.anewarray 9, 3) := by decide +kernel
theorem dX5_init_10 : decode cX5_init 10 = .ok (.putfield 11, 3) := by decide +kernel
theorem dX5_init_13 : decode cX5_init 13 = .ok (.aload_n 0, 1) := by decide +kernel
theorem dX5_init_14 : decode cX5_init 14 = .ok (.bipush 8, 2) := by decide +kernel
theorem dX5_init_16 : decode cX5_init 16 = .ok (.anewarray 15, 3) := by decide +kernel
theorem dX5_init_19 : decode cX5_init 19 = .ok (.putfield 17, 3) := by decide +kernel
theorem dX5_init_22 : decode cX5_init 22 = .ok (.aload_n 0, 1) := by decide +kernel
theorem dX5_init_23 : decode cX5_init 23 = .ok (.iconst 3, 1) := by decide +kernel
theorem dX5_init_24 : decode cX5_init 24 = .ok (.anewarray 21, 3) := by decide +kernel
theorem dX5_init_27 : decode cX5_init 27 = .ok (.putfield 23, 3) := by decide +kernel
theorem dX5_init_30 : decode cX5_init 30 = .ok (.iconst 0, 1) := by decide +kernel
theorem dX5_init_31 : decode cX5_init 31 = .ok (.istore_n 1, 1) := by decide +kernel
theorem dX5_init_32 : decode cX5_init 32 = .ok (.iload_n 1, 1) := by decide +kernel
theorem dX5_init_33 : decode cX5_init 33 = .ok (.aload_n 0, 1) := by decide +kernel
theorem dX5_init_34 : decode cX5_init 34 = .ok (.getfield 23, 3) := by decide +kernel
theorem dX5_init_37 : decode cX5_init 37 = .ok (.arraylength, 1) := by decide +kernel
theorem dX5_init_38 : decode cX5_init 38 = .ok (.if_icmp .ge 22, 3) := by decide +kernel
theorem dX5_init_41 : decode cX5_init 41 = .ok (.aload_n 0, 1) := by decide +kernel
theorem dX5_init_42 : decode cX5_init 42 = .ok (.getfield 23, 3) := by decide +kernel
theorem dX5_init_45 : decode cX5_init 45 = .ok (.iload_n 1, 1) := by decide +kernel
theorem dX5_init_46 : decode cX5_init 46 = .ok (.new 21, 3) := by decide +kernel
theorem dX5_init_49 : decode cX5_init 49 = .ok (.dup, 1) := by decide +kernel
theorem dX5_init_50 : decode cX5_init 50 = .ok (.invokespecial 27, 3) := by decide +kernel
theorem dX5_init_53 : decode cX5_init 53 = .ok (.aastore, 1) := by decide +kernel
theorem dX5_init_54 : decode cX5_init 54 = .ok (.iinc 1 1, 3) := by decide +kernel
theorem dX5_init_57 : decode cX5_init 57 = .ok (.goto (-25), 3) := by decide +kernel
theorem dX5_init_60 : decode cX5_init 60 = .ok (.return_, 1) := by decide +kernel
set_option maxRecDepth 20000 in
theorem ggX5_admit_X5_checkRange : GoodIn wsX5_admit wsX5_checkRange := goodIn_ca (goodIn_r _ [12, 13, 14] (by decide +kernel) (by decide +kernel)) (goodIn_sub (fun _ h => List.mem_cons_of_mem _ (List.mem_append_right _ h)) (by decide +kernel))
set_option maxRecDepth 20000 in
theorem gX5_admit_X5_checkRange : GoodIn wsX5_admit (va_wsS RX5 28 yX5_checkRange wsX5_checkRange) := goodIn_app (goodIn_of _ (by decide +kernel)) ggX5_admit_X5_checkRange
set_option maxRecDepth 20000 in
theorem ggX5_admit_X2_init : GoodIn wsX5_admit wsX2_init := goodIn_r _ [17, 18, 19, 20, 21, 22, 23, 24, 25, 26, 27, 28, 29, 30, 31, 32, 33, 34, 35, 42, 43, 44, 45, 46, 47, 48, 49, 50, 51, 52, 53, 54, 55, 56, 57, 58, 59] (by decide +kernel) (by decide +kernel)
set_option maxRecDepth 20000 in
theorem gX5_admit_X2_init : GoodIn wsX5_admit (wsX2_init) := ggX5_admit_X2_init
theorem dX5_admit_0 : decode cX5_admit 0 = .ok (.iload_n 1, 1) := by decide +kernel
theorem dX5_admit_1 : decode cX5_admit 1 = .ok (.iconst 1, 1) := by decide +kernel
theorem dX5_admit_2 : decode cX5_admit 2 = .ok (.sipush 2000, 3) := by decide +kernel
theorem dX5_admit_5 : decode cX5_admit 5 = .ok (.invokestatic 28, 3) := by decide +kernel
theorem dX5_admit_8 : decode cX5_admit 8 = .ok (.iload_n 2, 1) := by decide +kernel
theorem dX5_admit_9 : decode cX5_admit 9 = .ok (.iconst 0, 1) := by decide +kernel
theorem dX5_admit_10 : decode cX5_admit 10 = .ok (.bipush 15, 2) := by decide +kernel
theorem dX5_admit_12 : decode cX5_admit 12 = .ok (.invokestatic 28, 3) := by decide +kernel
theorem dX5_admit_15 : decode cX5_admit 15 = .ok (.aload_n 0, 1) := by decide +kernel
theorem dX5_admit_16 : decode cX5_admit 16 = .ok (.getfield 32, 3) := by decide +kernel
theorem dX5_admit_19 : decode cX5_admit 19 = .ok (.istore_n 3, 1) := by decide +kernel
theorem dX5_admit_20 : decode cX5_admit 20 = .ok (.iload_n 3, 1) := by decide +kernel
theorem dX5_admit_21 : decode cX5_admit 21 = .ok (.ifCond .lt 12, 3) := by decide +kernel
theorem dX5_admit_24 : decode cX5_admit 24 = .ok (.iload_n 3, 1) := by decide +kernel
theorem dX5_admit_25 : decode cX5_admit 25 = .ok (.aload_n 0, 1) := by decide +kernel
theorem dX5_admit_26 : decode cX5_admit 26 = .ok (.getfield 11, 3) := by decide +kernel
theorem dX5_admit_29 : decode cX5_admit 29 = .ok (.arraylength, 1) := by decide +kernel
theorem dX5_admit_30 : decode cX5_admit 30 = .ok (.if_icmp .lt 13, 3) := by decide +kernel
theorem dX5_admit_33 : decode cX5_admit 33 = .ok (.new 36, 3) := by decide +kernel
theorem dX5_admit_36 : decode cX5_admit 36 = .ok (.dup, 1) := by decide +kernel
theorem dX5_admit_37 : decode cX5_admit 37 = .ok (.ldc 38, 2) := by decide +kernel
theorem dX5_admit_39 : decode cX5_admit 39 = .ok (.invokespecial 40, 3) := by decide +kernel
theorem dX5_admit_42 : decode cX5_admit 42 = .ok (.athrow, 1) := by decide +kernel
theorem dX5_admit_43 : decode cX5_admit 43 = .ok (.aload_n 0, 1) := by decide +kernel
theorem dX5_admit_44 : decode cX5_admit 44 = .ok (.getfield 11, 3) := by decide +kernel
theorem dX5_admit_47 : decode cX5_admit 47 = .ok (.iload_n 3, 1) := by decide +kernel
theorem dX5_admit_48 : decode cX5_admit 48 = .ok (.new 9, 3) := by decide +kernel
theorem dX5_admit_51 : decode cX5_admit 51 = .ok (.dup, 1) := by decide +kernel
theorem dX5_admit_52 : decode cX5_admit 52 = .ok (.aload_n 0, 1) := by decide +kernel
theorem dX5_admit_53 : decode cX5_admit 53 = .ok (.getfield 43, 3) := by decide +kernel
theorem dX5_admit_56 : decode cX5_admit 56 = .ok (.iload_n 1, 1) := by decide +kernel
theorem dX5_admit_57 : decode cX5_admit 57 = .ok (.iload_n 2, 1) := by decide +kernel
theorem dX5_admit_58 : decode cX5_admit 58 = .ok (.invokespecial 46, 3) := by decide +kernel
theorem dX5_admit_61 : decode cX5_admit 61 = .ok (.aastore, 1) := by decide +kernel
theorem dX5_admit_62 : decode cX5_admit 62 = .ok (.aload_n 0, 1) := by decide +kernel
theorem dX5_admit_63 : decode cX5_admit 63 = .ok (.dup, 1) := by decide +kernel
theorem dX5_admit_64 : decode cX5_admit 64 = .ok (.getfield 32, 3) := by decide +kernel
theorem dX5_admit_67 : decode cX5_admit 67 = .ok (.iconst 1, 1) := by decide +kernel
theorem dX5_admit_68 : decode cX5_admit 68 = .ok (.iadd, 1) := by decide +kernel
theorem dX5_admit_69 : decode cX5_admit 69 = .ok (.putfield 32, 3) := by decide +kernel
theorem dX5_admit_72 : decode cX5_admit 72 = .ok (.iload_n 3, 1) := by decide +kernel
theorem dX5_admit_73 : decode cX5_admit 73 = .ok (.ireturn, 1) := by decide +kernel
set_option maxRecDepth 20000 in
theorem ggX5_course_X5_findPerson : GoodIn wsX5_course wsX5_findPerson := goodIn_ca (goodIn_r _ [5, 6, 7, 8, 60, 61, 62, 63, 64, 65] (by decide +kernel) (by decide +kernel)) (goodIn_sub (fun _ h => List.mem_cons_of_mem _ (List.mem_append_left _ (List.mem_append_left _ (List.mem_append_left _ (List.mem_append_right _ h))))) (by decide +kernel))
set_option maxRecDepth 20000 in
theorem gX5_course_X5_findPerson : GoodIn wsX5_course (wsV RX5 48 RX5 yX5_findPerson wsX5_findPerson) := goodIn_app (goodIn_of _ (by decide +kernel)) ggX5_course_X5_findPerson
set_option maxRecDepth 20000 in
theorem ggX5_course_X5_checkSkill : GoodIn wsX5_course wsX5_checkSkill := goodIn_ca (goodIn_r _ [11, 6, 7] (by decide +kernel) (by decide +kernel)) (goodIn_sub (fun _ h => List.mem_cons_of_mem _ (List.mem_append_left _ (List.mem_append_left _ (List.mem_append_left _ (List.mem_append_right _ h))))) (by decide +kernel))
set_option maxRecDepth 20000 in
theorem gX5_course_X5_checkSkill : GoodIn wsX5_course (va_wsS RX5 52 yX5_checkSkill wsX5_checkSkill) := goodIn_app (goodIn_of _ (by decide +kernel)) ggX5_course_X5_checkSkill
set_option maxRecDepth 20000 in
theorem ggX5_course_X5_checkRange : GoodIn wsX5_course wsX5_checkRange := goodIn_ca (goodIn_r _ [14, 15, 16] (by decide +kernel) (by decide +kernel)) (goodIn_sub (fun _ h => List.mem_cons_of_mem _ (List.mem_append_left _ (List.mem_append_left _ (List.mem_append_right _ h)))) (by decide +kernel))
set_option maxRecDepth 20000 in
theorem gX5_course_X5_checkRange : GoodIn wsX5_course (va_wsS RX5 28 yX5_checkRange wsX5_checkRange) := goodIn_app (goodIn_of _ (by decide +kernel)) ggX5_course_X5_checkRange
set_option maxRecDepth 20000 in
theorem ggX5_course_X5_checkIn : GoodIn wsX5_course wsX5_checkIn := goodIn_ca (goodIn_r _ [19, 20, 21, 22, 66, 67, 68, 69, 70, 71, 72, 73, 74, 75, 76, 77, 78, 79] (by decide +kernel) (by decide +kernel)) (goodIn_sub (fun _ h => List.mem_cons_of_mem _ (List.mem_append_left _ (List.mem_append_right _ h))) (by decide +kernel))
set_option maxRecDepth 20000 in
theorem gX5_course_X5_checkIn : GoodIn wsX5_course (va_wsS RX5 56 yX5_checkIn wsX5_checkIn) := goodIn_app (goodIn_of _ (by decide +kernel)) ggX5_course_X5_checkIn
set_option maxRecDepth 20000 in
theorem ggX5_course_X2_enterCourse : GoodIn wsX5_course wsX2_enterCourse := goodIn_ca (goodIn_r _ [27, 28, 21, 29, 30, 31, 32, 33, 34, 26, 35, 36, 37, 38, 39, 40, 41, 42, 43, 44, 45, 66, 67, 68, 69, 70, 71, 72, 73, 74, 75, 76, 77, 78, 79] (by decide +kernel) (by decide +kernel)) (goodIn_sub (fun _ h => List.mem_cons_of_mem _ (List.mem_append_right _ h)) (by decide +kernel))
set_option maxRecDepth 20000 in
theorem gX5_course_X2_enterCourse : GoodIn wsX5_course (wsV RX5 60 RX2 yX2_enterCourse wsX2_enterCourse) := goodIn_app (goodIn_of _ (by decide +kernel)) ggX5_course_X2_enterCourse
set_option maxRecDepth 20000 in
theorem ggX5_course_X2_releaseDay : GoodIn wsX5_course wsX2_releaseDay := goodIn_r _ [49, 50, 51, 52, 53, 42, 43, 44, 45, 54, 55, 56, 57, 26, 58, 59, 31, 66, 67, 68, 69, 70, 71, 72, 73, 74, 75, 76, 77, 78, 79] (by decide +kernel) (by decide +kernel)
set_option maxRecDepth 20000 in
theorem gX5_course_X2_releaseDay : GoodIn wsX5_course (wsV RX5 64 RX2 yX2_releaseDay wsX2_releaseDay) := goodIn_app (goodIn_of _ (by decide +kernel)) ggX5_course_X2_releaseDay
theorem dX5_course_0 : decode cX5_course 0 = .ok (.aload_n 0, 1) := by decide +kernel
theorem dX5_course_1 : decode cX5_course 1 = .ok (.iload_n 1, 1) := by decide +kernel
theorem dX5_course_2 : decode cX5_course 2 = .ok (.invokevirtual 48, 3) := by decide +kernel
theorem dX5_course_5 : decode cX5_course 5 = .ok (.astore 4, 2) := by decide +kernel
theorem dX5_course_7 : decode cX5_course 7 = .ok (.iload_n 2, 1) := by decide +kernel
theorem dX5_course_8 : decode cX5_course 8 = .ok (.invokestatic 52, 3) := by decide +kernel
theorem dX5_course_11 : decode cX5_course 11 = .ok (.iload_n 3, 1) := by decide +kernel
theorem dX5_course_12 : decode cX5_course 12 = .ok (.iconst 0, 1) := by decide +kernel
theorem dX5_course_13 : decode cX5_course 13 = .ok (.bipush 100, 2) := by decide +kernel
theorem dX5_course_15 : decode cX5_course 15 = .ok (.invokestatic 28, 3) := by decide +kernel
theorem dX5_course_18 : decode cX5_course 18 = .ok (.aload 4, 2) := by decide +kernel
theorem dX5_course_20 : decode cX5_course 20 = .ok (.invokestatic 56, 3) := by decide +kernel
theorem dX5_course_23 : decode cX5_course 23 = .ok (.aload 4, 2) := by decide +kernel
theorem dX5_course_25 : decode cX5_course 25 = .ok (.iload_n 2, 1) := by decide +kernel
theorem dX5_course_26 : decode cX5_course 26 = .ok (.iload_n 3, 1) := by decide +kernel
theorem dX5_course_27 : decode cX5_course 27 = .ok (.invokevirtual 60, 3) := by decide +kernel
theorem dX5_course_30 : decode cX5_course 30 = .ok (.aload 4, 2) := by decide +kernel
theorem dX5_course_32 : decode cX5_course 32 = .ok (.invokevirtual 64, 3) := by decide +kernel
theorem dX5_course_35 : decode cX5_course 35 = .ok (.ireturn, 1) := by decide +kernel
set_option maxRecDepth 20000 in
theorem ggX5_offence_X5_findPerson : GoodIn wsX5_offence wsX5_findPerson := goodIn_ca (goodIn_r _ [6, 7, 8, 9, 56, 57, 58, 59, 60, 61] (by decide +kernel) (by decide +kernel)) (goodIn_sub (fun _ h => List.mem_cons_of_mem _ (List.mem_append_left _ (List.mem_append_left _ (List.mem_append_left _ (List.mem_append_right _ h))))) (by decide +kernel))
set_option maxRecDepth 20000 in
theorem gX5_offence_X5_findPerson : GoodIn wsX5_offence (wsV RX5 48 RX5 yX5_findPerson wsX5_findPerson) := goodIn_app (goodIn_of _ (by decide +kernel)) ggX5_offence_X5_findPerson
set_option maxRecDepth 20000 in
theorem ggX5_offence_X5_checkRange : GoodIn wsX5_offence wsX5_checkRange := goodIn_ca (goodIn_r _ [12, 13, 14] (by decide +kernel) (by decide +kernel)) (goodIn_sub (fun _ h => List.mem_cons_of_mem _ (List.mem_append_left _ (List.mem_append_left _ (List.mem_append_right _ h)))) (by decide +kernel))
set_option maxRecDepth 20000 in
theorem gX5_offence_X5_checkRange : GoodIn wsX5_offence (va_wsS RX5 28 yX5_checkRange wsX5_checkRange) := goodIn_app (goodIn_of _ (by decide +kernel)) ggX5_offence_X5_checkRange
set_option maxRecDepth 20000 in
theorem ggX5_offence_X5_checkIn : GoodIn wsX5_offence wsX5_checkIn := goodIn_ca (goodIn_r _ [17, 18, 19, 20, 62, 63, 64, 65, 66, 67, 68, 69, 70, 71, 72, 73, 74, 75] (by decide +kernel) (by decide +kernel)) (goodIn_sub (fun _ h => List.mem_cons_of_mem _ (List.mem_append_left _ (List.mem_append_right _ h))) (by decide +kernel))
set_option maxRecDepth 20000 in
theorem gX5_offence_X5_checkIn : GoodIn wsX5_offence (va_wsS RX5 56 yX5_checkIn wsX5_checkIn) := goodIn_app (goodIn_of _ (by decide +kernel)) ggX5_offence_X5_checkIn
set_option maxRecDepth 20000 in
theorem ggX5_offence_X2_enterOffence : GoodIn wsX5_offence wsX2_enterOffence := goodIn_ca (goodIn_r _ [25, 26, 19, 27, 28, 29, 30, 31, 32, 33, 34, 35, 36, 24, 37, 38, 39, 40, 41, 42, 43, 44, 45, 46, 47, 48, 49, 50, 51, 52, 53, 54, 55, 62, 63, 64, 65, 66, 67, 68, 69, 70, 71, 72, 73, 74, 75, 76, 77, 78, 79, 80, 81, 82, 83, 84, 85, 86, 87] (by decide +kernel) (by decide +kernel)) (goodIn_sub (fun _ h => List.mem_cons_of_mem _ (List.mem_append_right _ h)) (by decide +kernel))
set_option maxRecDepth 20000 in
theorem gX5_offence_X2_enterOffence : GoodIn wsX5_offence (wsV RX5 68 RX2 yX2_enterOffence wsX2_enterOffence) := goodIn_app (goodIn_of _ (by decide +kernel)) ggX5_offence_X2_enterOffence
theorem dX5_offence_0 : decode cX5_offence 0 = .ok (.aload_n 0, 1) := by decide +kernel
theorem dX5_offence_1 : decode cX5_offence 1 = .ok (.iload_n 1, 1) := by decide +kernel
theorem dX5_offence_2 : decode cX5_offence 2 = .ok (.invokevirtual 48, 3) := by decide +kernel
theorem dX5_offence_5 : decode cX5_offence 5 = .ok (.astore_n 3, 1) := by decide +kernel
theorem dX5_offence_6 : decode cX5_offence 6 = .ok (.iload_n 2, 1) := by decide +kernel
theorem dX5_offence_7 : decode cX5_offence 7 = .ok (.iconst 0, 1) := by decide +kernel
theorem dX5_offence_8 : decode cX5_offence 8 = .ok (.bipush 100, 2) := by decide +kernel
theorem dX5_offence_10 : decode cX5_offence 10 = .ok (.invokestatic 28, 3) := by decide +kernel
theorem dX5_offence_13 : decode cX5_offence 13 = .ok (.aload_n 3, 1) := by decide +kernel
theorem dX5_offence_14 : decode cX5_offence 14 = .ok (.invokestatic 56, 3) := by decide +kernel
theorem dX5_offence_17 : decode cX5_offence 17 = .ok (.aload_n 3, 1) := by decide +kernel
theorem dX5_offence_18 : decode cX5_offence 18 = .ok (.aload_n 0, 1) := by decide +kernel
theorem dX5_offence_19 : decode cX5_offence 19 = .ok (.getfield 43, 3) := by decide +kernel
theorem dX5_offence_22 : decode cX5_offence 22 = .ok (.iload_n 2, 1) := by decide +kernel
theorem dX5_offence_23 : decode cX5_offence 23 = .ok (.invokevirtual 68, 3) := by decide +kernel
theorem dX5_offence_26 : decode cX5_offence 26 = .ok (.ireturn, 1) := by decide +kernel
set_option maxRecDepth 20000 in
theorem ggX5_appeal_X5_findPerson : GoodIn wsX5_appeal wsX5_findPerson := goodIn_ca (goodIn_r _ [8, 9, 10, 11, 56, 57, 58, 59, 60, 61] (by decide +kernel) (by decide +kernel)) (goodIn_sub (fun _ h => List.mem_cons_of_mem _ (List.mem_append_right _ h)) (by decide +kernel))
set_option maxRecDepth 20000 in
theorem gX5_appeal_X5_findPerson : GoodIn wsX5_appeal (wsV RX5 48 RX5 yX5_findPerson wsX5_findPerson) := goodIn_app (goodIn_of _ (by decide +kernel)) ggX5_appeal_X5_findPerson
set_option maxRecDepth 20000 in
theorem ggX5_appeal_X5_findOffence : GoodIn wsX5_appeal wsX5_findOffence := goodIn_ca (goodIn_r _ [14, 9, 10, 15, 62, 63, 64, 65, 66, 67, 68, 69, 70, 71, 72, 73, 74, 75] (by decide +kernel) (by decide +kernel)) (goodIn_sub (fun _ h => List.mem_cons_of_mem _ (List.mem_append_right _ h)) (by decide +kernel))
set_option maxRecDepth 20000 in
theorem gX5_appeal_X5_findOffence : GoodIn wsX5_appeal (va_wsS RX5 72 yX5_findOffence wsX5_findOffence) := goodIn_app (goodIn_of _ (by decide +kernel)) ggX5_appeal_X5_findOffence
set_option maxRecDepth 20000 in
theorem ggX5_appeal_X5_checkIn : GoodIn wsX5_appeal wsX5_checkIn := goodIn_ca (goodIn_r _ [18, 1, 2, 19, 62, 63, 64, 65, 66, 67, 68, 69, 70, 71, 72, 73, 74, 75] (by decide +kernel) (by decide +kernel)) (goodIn_sub (fun _ h => List.mem_cons_of_mem _ (List.mem_append_left _ (List.mem_append_right _ h))) (by decide +kernel))
set_option maxRecDepth 20000 in
theorem gX5_appeal_X5_checkIn : GoodIn wsX5_appeal (va_wsS RX5 56 yX5_checkIn wsX5_checkIn) := goodIn_app (goodIn_of _ (by decide +kernel)) ggX5_appeal_X5_checkIn
set_option maxRecDepth 20000 in
theorem ggX5_appeal_X2_appealOffence : GoodIn wsX5_appeal wsX2_appealOffence := goodIn_r _ [24, 25, 26, 27, 28, 29, 30, 31, 23, 32, 33, 34, 35, 36, 37, 52, 53, 54, 55, 62, 63, 64, 65, 66, 67, 68, 69, 70, 71, 72, 73, 74, 75] (by decide +kernel) (by decide +kernel)
set_option maxRecDepth 20000 in
theorem gX5_appeal_X2_appealOffence : GoodIn wsX5_appeal (wsV RX5 84 RX2 yX2_appealOffence wsX2_appealOffence) := goodIn_app (goodIn_of _ (by decide +kernel)) ggX5_appeal_X2_appealOffence
set_option maxRecDepth 20000 in
theorem ggX5_appeal_X2_releaseDay : GoodIn wsX5_appeal wsX2_releaseDay := goodIn_r _ [41, 42, 43, 44, 45, 34, 35, 36, 37, 26, 46, 47, 48, 23, 49, 50, 51, 62, 63, 64, 65, 66, 67, 68, 69, 70, 71, 72, 73, 74, 75] (by decide +kernel) (by decide +kernel)
set_option maxRecDepth 20000 in
theorem gX5_appeal_X2_releaseDay : GoodIn wsX5_appeal (wsV RX5 64 RX2 yX2_releaseDay wsX2_releaseDay) := goodIn_app (goodIn_of _ (by decide +kernel)) ggX5_appeal_X2_releaseDay
theorem dX5_appeal_0 : decode cX5_appeal 0 = .ok (.aload_n 0, 1) := by decide +kernel
theorem dX5_appeal_1 : decode cX5_appeal 1 = .ok (.iload_n 1, 1) := by decide +kernel
theorem dX5_appeal_2 : decode cX5_appeal 2 = .ok (.invokevirtual 48, 3) := by decide +kernel
theorem dX5_appeal_5 : decode cX5_appeal 5 = .ok (.astore_n 3, 1) := by decide +kernel
theorem dX5_appeal_6 : decode cX5_appeal 6 = .ok (.aload_n 3, 1) := by decide +kernel
theorem dX5_appeal_7 : decode cX5_appeal 7 = .ok (.iload_n 2, 1) := by decide +kernel
theorem dX5_appeal_8 : decode cX5_appeal 8 = .ok (.invokestatic 72, 3) := by decide +kernel
theorem dX5_appeal_11 : decode cX5_appeal 11 = .ok (.astore 4, 2) := by decide +kernel
theorem dX5_appeal_13 : decode cX5_appeal 13 = .ok (.aload_n 3, 1) := by decide +kernel
theorem dX5_appeal_14 : decode cX5_appeal 14 = .ok (.invokestatic 56, 3) := by decide +kernel
theorem dX5_appeal_17 : decode cX5_appeal 17 = .ok (.aload 4, 2) := by decide +kernel
theorem dX5_appeal_19 : decode cX5_appeal 19 = .ok (.getfield 76, 3) := by decide +kernel
theorem dX5_appeal_22 : decode cX5_appeal 22 = .ok (.ifCond .eq 13, 3) := by decide +kernel
theorem dX5_appeal_25 : decode cX5_appeal 25 = .ok (.new 36, 3) := by decide +kernel
theorem dX5_appeal_28 : decode cX5_appeal 28 = .ok (.dup, 1) := by decide +kernel
theorem dX5_appeal_29 : decode cX5_appeal 29 = .ok (.ldc 82, 2) := by decide +kernel
theorem dX5_appeal_31 : decode cX5_appeal 31 = .ok (.invokespecial 40, 3) := by decide +kernel
theorem dX5_appeal_34 : decode cX5_appeal 34 = .ok (.athrow, 1) := by decide +kernel
theorem dX5_appeal_35 : decode cX5_appeal 35 = .ok (.aload_n 3, 1) := by decide +kernel
theorem dX5_appeal_36 : decode cX5_appeal 36 = .ok (.aload 4, 2) := by decide +kernel
theorem dX5_appeal_38 : decode cX5_appeal 38 = .ok (.invokevirtual 84, 3) := by decide +kernel
theorem dX5_appeal_41 : decode cX5_appeal 41 = .ok (.aload_n 3, 1) := by decide +kernel
theorem dX5_appeal_42 : decode cX5_appeal 42 = .ok (.invokevirtual 64, 3) := by decide +kernel
theorem dX5_appeal_45 : decode cX5_appeal 45 = .ok (.ireturn, 1) := by decide +kernel
set_option maxRecDepth 20000 in
theorem ggX5_release_X5_findPerson : GoodIn wsX5_release wsX5_findPerson := goodIn_ca (goodIn_r _ [5, 6, 7, 8, 29, 30, 31, 32, 33, 34] (by decide +kernel) (by decide +kernel)) (goodIn_sub (fun _ h => List.mem_cons_of_mem _ (List.mem_append_right _ h)) (by decide +kernel))
set_option maxRecDepth 20000 in
theorem gX5_release_X5_findPerson : GoodIn wsX5_release (wsV RX5 48 RX5 yX5_findPerson wsX5_findPerson) := goodIn_app (goodIn_of _ (by decide +kernel)) ggX5_release_X5_findPerson
set_option maxRecDepth 20000 in
theorem ggX5_release_X2_releaseDay : GoodIn wsX5_release wsX2_releaseDay := goodIn_r _ [13, 14, 15, 16, 17, 18, 19, 20, 21, 22, 23, 24, 25, 12, 26, 27, 28, 35, 36, 37, 38, 39, 40, 41, 42, 43, 44, 45, 46, 47, 48] (by decide +kernel) (by decide +kernel)
set_option maxRecDepth 20000 in
theorem gX5_release_X2_releaseDay : GoodIn wsX5_release (wsV RX5 64 RX2 yX2_releaseDay wsX2_releaseDay) := goodIn_app (goodIn_of _ (by decide +kernel)) ggX5_release_X2_releaseDay
theorem dX5_release_0 : decode cX5_release 0 = .ok (.aload_n 0, 1) := by decide +kernel
theorem dX5_release_1 : decode cX5_release 1 = .ok (.iload_n 1, 1) := by decide +kernel
theorem dX5_release_2 : decode cX5_release 2 = .ok (.invokevirtual 48, 3) := by decide +kernel
theorem dX5_release_5 : decode cX5_release 5 = .ok (.invokevirtual 64, 3) := by decide +kernel
theorem dX5_release_8 : decode cX5_release 8 = .ok (.ireturn, 1) := by decide +kernel
set_option maxRecDepth 20000 in
theorem ggX5_isIn_X5_findPerson : GoodIn wsX5_isIn wsX5_findPerson := goodIn_ca (goodIn_r _ [6, 7, 8, 9, 24, 25, 26, 27, 28, 29] (by decide +kernel) (by decide +kernel)) (goodIn_sub (fun _ h => List.mem_cons_of_mem _ (List.mem_append_right _ h)) (by decide +kernel))
set_option maxRecDepth 20000 in
theorem gX5_isIn_X5_findPerson : GoodIn wsX5_isIn (wsV RX5 48 RX5 yX5_findPerson wsX5_findPerson) := goodIn_app (goodIn_of _ (by decide +kernel)) ggX5_isIn_X5_findPerson
theorem dX5_isIn_0 : decode cX5_isIn 0 = .ok (.aload_n 0, 1) := by decide +kernel
theorem dX5_isIn_1 : decode cX5_isIn 1 = .ok (.iload_n 1, 1) := by decide +kernel
theorem dX5_isIn_2 : decode cX5_isIn 2 = .ok (.invokevirtual 48, 3) := by decide +kernel
theorem dX5_isIn_5 : decode cX5_isIn 5 = .ok (.getfield 88, 3) := by decide +kernel
theorem dX5_isIn_8 : decode cX5_isIn 8 = .ok (.ifCond .ne 7, 3) := by decide +kernel
theorem dX5_isIn_11 : decode cX5_isIn 11 = .ok (.iconst 1, 1) := by decide +kernel
theorem dX5_isIn_12 : decode cX5_isIn 12 = .ok (.goto 4, 3) := by decide +kernel
theorem dX5_isIn_15 : decode cX5_isIn 15 = .ok (.iconst 0, 1) := by decide +kernel
theorem dX5_isIn_16 : decode cX5_isIn 16 = .ok (.ireturn, 1) := by decide +kernel
set_option maxRecDepth 20000 in
theorem ggX5_regime_X5_findPerson : GoodIn wsX5_regime wsX5_findPerson := goodIn_ca (goodIn_r _ [6, 7, 8, 9, 24, 25, 26, 27, 28, 29] (by decide +kernel) (by decide +kernel)) (goodIn_sub (fun _ h => List.mem_cons_of_mem _ (List.mem_append_right _ h)) (by decide +kernel))
set_option maxRecDepth 20000 in
theorem gX5_regime_X5_findPerson : GoodIn wsX5_regime (wsV RX5 48 RX5 yX5_findPerson wsX5_findPerson) := goodIn_app (goodIn_of _ (by decide +kernel)) ggX5_regime_X5_findPerson
theorem dX5_regime_0 : decode cX5_regime 0 = .ok (.aload_n 0, 1) := by decide +kernel
theorem dX5_regime_1 : decode cX5_regime 1 = .ok (.iload_n 1, 1) := by decide +kernel
theorem dX5_regime_2 : decode cX5_regime 2 = .ok (.invokevirtual 48, 3) := by decide +kernel
theorem dX5_regime_5 : decode cX5_regime 5 = .ok (.getfield 91, 3) := by decide +kernel
theorem dX5_regime_8 : decode cX5_regime 8 = .ok (.ireturn, 1) := by decide +kernel
set_option maxRecDepth 20000 in
theorem ggX5_papers_X5_findPerson : GoodIn wsX5_papers wsX5_findPerson := goodIn_ca (goodIn_r _ [6, 7, 8, 9, 31, 32, 33, 34, 35, 36] (by decide +kernel) (by decide +kernel)) (goodIn_sub (fun _ h => List.mem_cons_of_mem _ (List.mem_append_right _ h)) (by decide +kernel))
set_option maxRecDepth 20000 in
theorem gX5_papers_X5_findPerson : GoodIn wsX5_papers (wsV RX5 48 RX5 yX5_findPerson wsX5_findPerson) := goodIn_app (goodIn_of _ (by decide +kernel)) ggX5_papers_X5_findPerson
set_option maxRecDepth 20000 in
theorem ggX5_papers_X2_gainedDays : GoodIn wsX5_papers wsX2_gainedDays := goodIn_r _ [14, 15, 16, 17, 18, 19, 20, 21, 22, 23, 24, 25, 26, 27, 28, 29, 30] (by decide +kernel) (by decide +kernel)
set_option maxRecDepth 20000 in
theorem gX5_papers_X2_gainedDays : GoodIn wsX5_papers (wsV RX5 97 RX2 yX2_gainedDays wsX2_gainedDays) := goodIn_app (goodIn_of _ (by decide +kernel)) ggX5_papers_X2_gainedDays
theorem dX5_papers_0 : decode cX5_papers 0 = .ok (.aload_n 0, 1) := by decide +kernel
theorem dX5_papers_1 : decode cX5_papers 1 = .ok (.iload_n 1, 1) := by decide +kernel
theorem dX5_papers_2 : decode cX5_papers 2 = .ok (.invokevirtual 48, 3) := by decide +kernel
theorem dX5_papers_5 : decode cX5_papers 5 = .ok (.astore_n 3, 1) := by decide +kernel
theorem dX5_papers_6 : decode cX5_papers 6 = .ok (.iload_n 2, 1) := by decide +kernel
theorem dX5_papers_7 : decode cX5_papers 7 = .ok (.ifCond .eq 10, 3) := by decide +kernel
theorem dX5_papers_10 : decode cX5_papers 10 = .ok (.aload_n 3, 1) := by decide +kernel
theorem dX5_papers_11 : decode cX5_papers 11 = .ok (.getfield 94, 3) := by decide +kernel
theorem dX5_papers_14 : decode cX5_papers 14 = .ok (.goto 7, 3) := by decide +kernel
theorem dX5_papers_17 : decode cX5_papers 17 = .ok (.aload_n 3, 1) := by decide +kernel
theorem dX5_papers_18 : decode cX5_papers 18 = .ok (.invokevirtual 97, 3) := by decide +kernel
theorem dX5_papers_21 : decode cX5_papers 21 = .ok (.ireturn, 1) := by decide +kernel
set_option maxRecDepth 20000 in
theorem ggX5_setTools_X5_findTools : GoodIn wsX5_setTools wsX5_findTools := goodIn_ca (goodIn_r _ [9, 10, 11, 12, 20, 21, 22, 23, 24, 25] (by decide +kernel) (by decide +kernel)) (goodIn_sub (fun _ h => List.mem_cons_of_mem _ (List.mem_append_left _ (List.mem_append_right _ h))) (by decide +kernel))
set_option maxRecDepth 20000 in
theorem gX5_setTools_X5_findTools : GoodIn wsX5_setTools (wsV RX5 100 RX5 yX5_findTools wsX5_findTools) := goodIn_app (goodIn_of _ (by decide +kernel)) ggX5_setTools_X5_findTools
set_option maxRecDepth 20000 in
theorem ggX5_setTools_X5_checkRange : GoodIn wsX5_setTools wsX5_checkRange := goodIn_ca (goodIn_r _ [15, 16, 17] (by decide +kernel) (by decide +kernel)) (goodIn_sub (fun _ h => List.mem_cons_of_mem _ (List.mem_append_right _ h)) (by decide +kernel))
set_option maxRecDepth 20000 in
theorem gX5_setTools_X5_checkRange : GoodIn wsX5_setTools (va_wsS RX5 28 yX5_checkRange wsX5_checkRange) := goodIn_app (goodIn_of _ (by decide +kernel)) ggX5_setTools_X5_checkRange
theorem dX5_setTools_0 : decode cX5_setTools 0 = .ok (.aload_n 0, 1) := by decide +kernel
theorem dX5_setTools_1 : decode cX5_setTools 1 = .ok (.iload_n 1, 1) := by decide +kernel
theorem dX5_setTools_2 : decode cX5_setTools 2 = .ok (.invokevirtual 100, 3) := by decide +kernel
theorem dX5_setTools_5 : decode cX5_setTools 5 = .ok (.astore_n 3, 1) := by decide +kernel
theorem dX5_setTools_6 : decode cX5_setTools 6 = .ok (.iload_n 2, 1) := by decide +kernel
theorem dX5_setTools_7 : decode cX5_setTools 7 = .ok (.iconst 0, 1) := by decide +kernel
theorem dX5_setTools_8 : decode cX5_setTools 8 = .ok (.bipush 20, 2) := by decide +kernel
theorem dX5_setTools_10 : decode cX5_setTools 10 = .ok (.invokestatic 28, 3) := by decide +kernel
theorem dX5_setTools_13 : decode cX5_setTools 13 = .ok (.aload_n 3, 1) := by decide +kernel
theorem dX5_setTools_14 : decode cX5_setTools 14 = .ok (.getfield 104, 3) := by decide +kernel
theorem dX5_setTools_17 : decode cX5_setTools 17 = .ok (.iload_n 2, 1) := by decide +kernel
theorem dX5_setTools_18 : decode cX5_setTools 18 = .ok (.if_icmp .le 13, 3) := by decide +kernel
theorem dX5_setTools_21 : decode cX5_setTools 21 = .ok (.new 36, 3) := by decide +kernel
theorem dX5_setTools_24 : decode cX5_setTools 24 = .ok (.dup, 1) := by decide +kernel
theorem dX5_setTools_25 : decode cX5_setTools 25 = .ok (.ldc 107, 2) := by decide +kernel
theorem dX5_setTools_27 : decode cX5_setTools 27 = .ok (.invokespecial 40, 3) := by decide +kernel
theorem dX5_setTools_30 : decode cX5_setTools 30 = .ok (.athrow, 1) := by decide +kernel
theorem dX5_setTools_31 : decode cX5_setTools 31 = .ok (.aload_n 3, 1) := by decide +kernel
theorem dX5_setTools_32 : decode cX5_setTools 32 = .ok (.getfield 109, 3) := by decide +kernel
theorem dX5_setTools_35 : decode cX5_setTools 35 = .ok (.istore 4, 2) := by decide +kernel
theorem dX5_setTools_37 : decode cX5_setTools 37 = .ok (.aload_n 3, 1) := by decide +kernel
theorem dX5_setTools_38 : decode cX5_setTools 38 = .ok (.iload_n 2, 1) := by decide +kernel
theorem dX5_setTools_39 : decode cX5_setTools 39 = .ok (.putfield 109, 3) := by decide +kernel
theorem dX5_setTools_42 : decode cX5_setTools 42 = .ok (.iload 4, 2) := by decide +kernel
theorem dX5_setTools_44 : decode cX5_setTools 44 = .ok (.ireturn, 1) := by decide +kernel
set_option maxRecDepth 20000 in
theorem ggX5_toolsOut_X5_findTools : GoodIn wsX5_toolsOut wsX5_findTools := goodIn_ca (goodIn_r _ [6, 7, 8, 9, 12, 13, 14, 15, 16, 17] (by decide +kernel) (by decide +kernel)) (goodIn_sub (fun _ h => List.mem_cons_of_mem _ (List.mem_append_right _ h)) (by decide +kernel))
set_option maxRecDepth 20000 in
theorem gX5_toolsOut_X5_findTools : GoodIn wsX5_toolsOut (wsV RX5 100 RX5 yX5_findTools wsX5_findTools) := goodIn_app (goodIn_of _ (by decide +kernel)) ggX5_toolsOut_X5_findTools
theorem dX5_toolsOut_0 : decode cX5_toolsOut 0 = .ok (.aload_n 0, 1) := by decide +kernel
theorem dX5_toolsOut_1 : decode cX5_toolsOut 1 = .ok (.iload_n 1, 1) := by decide +kernel
theorem dX5_toolsOut_2 : decode cX5_toolsOut 2 = .ok (.invokevirtual 100, 3) := by decide +kernel
theorem dX5_toolsOut_5 : decode cX5_toolsOut 5 = .ok (.getfield 104, 3) := by decide +kernel
theorem dX5_toolsOut_8 : decode cX5_toolsOut 8 = .ok (.ireturn, 1) := by decide +kernel
set_option maxRecDepth 20000 in
theorem ggX5_addOrder_X5_checkSkill : GoodIn wsX5_addOrder wsX5_checkSkill := goodIn_ca (goodIn_r _ [11, 12, 13] (by decide +kernel) (by decide +kernel)) (goodIn_sub (fun _ h => List.mem_cons_of_mem _ (List.mem_append_left _ (List.mem_append_right _ h))) (by decide +kernel))
set_option maxRecDepth 20000 in
theorem gX5_addOrder_X5_checkSkill : GoodIn wsX5_addOrder (va_wsS RX5 52 yX5_checkSkill wsX5_checkSkill) := goodIn_app (goodIn_of _ (by decide +kernel)) ggX5_addOrder_X5_checkSkill
set_option maxRecDepth 20000 in
theorem ggX5_addOrder_X5_findTools : GoodIn wsX5_addOrder wsX5_findTools := goodIn_ca (goodIn_r _ [17, 12, 13, 18, 35, 36, 37, 38, 39, 40] (by decide +kernel) (by decide +kernel)) (goodIn_sub (fun _ h => List.mem_cons_of_mem _ (List.mem_append_left _ (List.mem_append_right _ h))) (by decide +kernel))
set_option maxRecDepth 20000 in
theorem gX5_addOrder_X5_findTools : GoodIn wsX5_addOrder (wsV RX5 100 RX5 yX5_findTools wsX5_findTools) := goodIn_app (goodIn_of _ (by decide +kernel)) ggX5_addOrder_X5_findTools
set_option maxRecDepth 20000 in
theorem ggX5_addOrder_X5_checkRange : GoodIn wsX5_addOrder wsX5_checkRange := goodIn_ca (goodIn_r _ [21, 22, 23] (by decide +kernel) (by decide +kernel)) (goodIn_sub (fun _ h => List.mem_cons_of_mem _ (List.mem_append_right _ h)) (by decide +kernel))
set_option maxRecDepth 20000 in
theorem gX5_addOrder_X5_checkRange : GoodIn wsX5_addOrder (va_wsS RX5 28 yX5_checkRange wsX5_checkRange) := goodIn_app (goodIn_of _ (by decide +kernel)) ggX5_addOrder_X5_checkRange
set_option maxRecDepth 20000 in
theorem ggX5_addOrder_X1_init : GoodIn wsX5_addOrder wsX1_init := goodIn_r _ [26, 27, 28, 29, 30, 31, 32, 33, 34, 41, 42, 43, 44, 45, 46] (by decide +kernel) (by decide +kernel)
set_option maxRecDepth 20000 in
theorem gX5_addOrder_X1_init : GoodIn wsX5_addOrder (wsX1_init) := ggX5_addOrder_X1_init
theorem dX5_addOrder_0 : decode cX5_addOrder 0 = .ok (.iload_n 1, 1) := by decide +kernel
theorem dX5_addOrder_1 : decode cX5_addOrder 1 = .ok (.invokestatic 52, 3) := by decide +kernel
theorem dX5_addOrder_4 : decode cX5_addOrder 4 = .ok (.aload_n 0, 1) := by decide +kernel
theorem dX5_addOrder_5 : decode cX5_addOrder 5 = .ok (.iload_n 2, 1) := by decide +kernel
theorem dX5_addOrder_6 : decode cX5_addOrder 6 = .ok (.invokevirtual 100, 3) := by decide +kernel
theorem dX5_addOrder_9 : decode cX5_addOrder 9 = .ok (.astore 5, 2) := by decide +kernel
theorem dX5_addOrder_11 : decode cX5_addOrder 11 = .ok (.iload_n 3, 1) := by decide +kernel
theorem dX5_addOrder_12 : decode cX5_addOrder 12 = .ok (.iconst 1, 1) := by decide +kernel
theorem dX5_addOrder_13 : decode cX5_addOrder 13 = .ok (.sipush 500, 3) := by decide +kernel
theorem dX5_addOrder_16 : decode cX5_addOrder 16 = .ok (.invokestatic 28, 3) := by decide +kernel
theorem dX5_addOrder_19 : decode cX5_addOrder 19 = .ok (.iload 4, 2) := by decide +kernel
theorem dX5_addOrder_21 : decode cX5_addOrder 21 = .ok (.iconst 0, 1) := by decide +kernel
theorem dX5_addOrder_22 : decode cX5_addOrder 22 = .ok (.sipush 1000, 3) := by decide +kernel
theorem dX5_addOrder_25 : decode cX5_addOrder 25 = .ok (.invokestatic 28, 3) := by decide +kernel
theorem dX5_addOrder_28 : decode cX5_addOrder 28 = .ok (.aload_n 0, 1) := by decide +kernel
theorem dX5_addOrder_29 : decode cX5_addOrder 29 = .ok (.getfield 112, 3) := by decide +kernel
theorem dX5_addOrder_32 : decode cX5_addOrder 32 = .ok (.istore 6, 2) := by decide +kernel
theorem dX5_addOrder_34 : decode cX5_addOrder 34 = .ok (.iload 6, 2) := by decide +kernel
theorem dX5_addOrder_36 : decode cX5_addOrder 36 = .ok (.ifCond .lt 13, 3) := by decide +kernel
theorem dX5_addOrder_39 : decode cX5_addOrder 39 = .ok (.iload 6, 2) := by decide +kernel
theorem dX5_addOrder_41 : decode cX5_addOrder 41 = .ok (.aload_n 0, 1) := by decide +kernel
theorem dX5_addOrder_42 : decode cX5_addOrder 42 = .ok (.getfield 17, 3) := by decide +kernel
theorem dX5_addOrder_45 : decode cX5_addOrder 45 = .ok (.arraylength, 1) := by decide +kernel
theorem dX5_addOrder_46 : decode cX5_addOrder 46 = .ok (.if_icmp .lt 13, 3) := by decide +kernel
theorem dX5_addOrder_49 : decode cX5_addOrder 49 = .ok (.new 36, 3) := by decide +kernel
theorem dX5_addOrder_52 : decode cX5_addOrder 52 = .ok (.dup, 1) := by decide +kernel
theorem dX5_addOrder_53 : decode cX5_addOrder 53 = .ok (.ldc 115, 2) := by decide +kernel
theorem dX5_addOrder_55 : decode cX5_addOrder 55 = .ok (.invokespecial 40, 3) := by decide +kernel
theorem dX5_addOrder_58 : decode cX5_addOrder 58 = .ok (.athrow, 1) := by decide +kernel
theorem dX5_addOrder_59 : decode cX5_addOrder 59 = .ok (.aload_n 0, 1) := by decide +kernel
theorem dX5_addOrder_60 : decode cX5_addOrder 60 = .ok (.getfield 17, 3) := by decide +kernel
theorem dX5_addOrder_63 : decode cX5_addOrder 63 = .ok (.iload 6, 2) := by decide +kernel
theorem dX5_addOrder_65 : decode cX5_addOrder 65 = .ok (.new 15, 3) := by decide +kernel
theorem dX5_addOrder_68 : decode cX5_addOrder 68 = .ok (.dup, 1) := by decide +kernel
theorem dX5_addOrder_69 : decode cX5_addOrder 69 = .ok (.iload 6, 2) := by decide +kernel
theorem dX5_addOrder_71 : decode cX5_addOrder 71 = .ok (.iload_n 1, 1) := by decide +kernel
theorem dX5_addOrder_72 : decode cX5_addOrder 72 = .ok (.aload 5, 2) := by decide +kernel
theorem dX5_addOrder_74 : decode cX5_addOrder 74 = .ok (.iload_n 3, 1) := by decide +kernel
theorem dX5_addOrder_75 : decode cX5_addOrder 75 = .ok (.iload 4, 2) := by decide +kernel
theorem dX5_addOrder_77 : decode cX5_addOrder 77 = .ok (.invokespecial 117, 3) := by decide +kernel
theorem dX5_addOrder_80 : decode cX5_addOrder 80 = .ok (.aastore, 1) := by decide +kernel
theorem dX5_addOrder_81 : decode cX5_addOrder 81 = .ok (.aload_n 0, 1) := by decide +kernel
theorem dX5_addOrder_82 : decode cX5_addOrder 82 = .ok (.dup, 1) := by decide +kernel
theorem dX5_addOrder_83 : decode cX5_addOrder 83 = .ok (.getfield 112, 3) := by decide +kernel
theorem dX5_addOrder_86 : decode cX5_addOrder 86 = .ok (.iconst 1, 1) := by decide +kernel
theorem dX5_addOrder_87 : decode cX5_addOrder 87 = .ok (.iadd, 1) := by decide +kernel
theorem dX5_addOrder_88 : decode cX5_addOrder 88 = .ok (.putfield 112, 3) := by decide +kernel
theorem dX5_addOrder_91 : decode cX5_addOrder 91 = .ok (.iload 6, 2) := by decide +kernel
theorem dX5_addOrder_93 : decode cX5_addOrder 93 = .ok (.ireturn, 1) := by decide +kernel
set_option maxRecDepth 20000 in
theorem ggX5_assign_X5_findPerson : GoodIn wsX5_assign wsX5_findPerson := goodIn_ca (goodIn_r _ [10, 11, 12, 13, 70, 71, 72, 73, 74, 75] (by decide +kernel) (by decide +kernel)) (goodIn_sub (fun _ h => List.mem_cons_of_mem _ (List.mem_append_right _ h)) (by decide +kernel))
set_option maxRecDepth 20000 in
theorem gX5_assign_X5_findPerson : GoodIn wsX5_assign (wsV RX5 48 RX5 yX5_findPerson wsX5_findPerson) := goodIn_app (goodIn_of _ (by decide +kernel)) ggX5_assign_X5_findPerson
set_option maxRecDepth 20000 in
theorem ggX5_assign_X5_findOrder : GoodIn wsX5_assign wsX5_findOrder := goodIn_ca (goodIn_r _ [17, 11, 12, 18, 70, 71, 72, 73, 74, 75] (by decide +kernel) (by decide +kernel)) (goodIn_sub (fun _ h => List.mem_cons_of_mem _ (List.mem_append_right _ h)) (by decide +kernel))
set_option maxRecDepth 20000 in
theorem gX5_assign_X5_findOrder : GoodIn wsX5_assign (wsV RX5 120 RX5 yX5_findOrder wsX5_findOrder) := goodIn_app (goodIn_of _ (by decide +kernel)) ggX5_assign_X5_findOrder
set_option maxRecDepth 20000 in
theorem ggX5_assign_X5_checkIn : GoodIn wsX5_assign wsX5_checkIn := goodIn_ca (goodIn_r _ [21, 1, 2, 22, 50, 51, 52, 53, 54, 55, 56, 57, 58, 59, 60, 61, 62, 63] (by decide +kernel) (by decide +kernel)) (goodIn_sub (fun _ h => List.mem_cons_of_mem _ (List.mem_append_left _ (List.mem_append_right _ h))) (by decide +kernel))
set_option maxRecDepth 20000 in
theorem gX5_assign_X5_checkIn : GoodIn wsX5_assign (va_wsS RX5 56 yX5_checkIn wsX5_checkIn) := goodIn_app (goodIn_of _ (by decide +kernel)) ggX5_assign_X5_checkIn
set_option maxRecDepth 20000 in
theorem ggX5_assign_X2_hasSkill : GoodIn wsX5_assign wsX2_hasSkill := goodIn_r _ [27, 28, 50, 51, 52, 53, 54, 55, 56, 57, 58, 59, 60, 61, 62, 63] (by decide +kernel) (by decide +kernel)
set_option maxRecDepth 20000 in
theorem gX5_assign_X2_hasSkill : GoodIn wsX5_assign (wsV RX5 133 RX2 yX2_hasSkill wsX2_hasSkill) := goodIn_app (goodIn_of _ (by decide +kernel)) ggX5_assign_X2_hasSkill
set_option maxRecDepth 20000 in
theorem ggX5_assign_X1_isFinished : GoodIn wsX5_assign wsX1_isFinished := goodIn_r _ [33, 34, 64, 65, 66, 67, 68, 69] (by decide +kernel) (by decide +kernel)
set_option maxRecDepth 20000 in
theorem gX5_assign_X1_isFinished : GoodIn wsX5_assign (wsV RX5 139 RX1 yX1_isFinished wsX1_isFinished) := goodIn_app (goodIn_of _ (by decide +kernel)) ggX5_assign_X1_isFinished
set_option maxRecDepth 20000 in
theorem ggX5_assign_X1_hasFreeTool : GoodIn wsX5_assign wsX1_hasFreeTool := goodIn_r _ [38, 39, 40, 41, 64, 65, 66, 67, 68, 69, 76, 77] (by decide +kernel) (by decide +kernel)
set_option maxRecDepth 20000 in
theorem gX5_assign_X1_hasFreeTool : GoodIn wsX5_assign (wsV RX5 143 RX1 yX1_hasFreeTool wsX1_hasFreeTool) := goodIn_app (goodIn_of _ (by decide +kernel)) ggX5_assign_X1_hasFreeTool
set_option maxRecDepth 20000 in
theorem ggX5_assign_X2_joinOrder : GoodIn wsX5_assign wsX2_joinOrder := goodIn_r _ [45, 46, 47, 48, 49, 50, 51, 52, 53, 54, 55, 56, 57, 58, 59, 60, 61, 62, 63, 64, 65, 66, 67, 68, 69, 76, 77] (by decide +kernel) (by decide +kernel)
set_option maxRecDepth 20000 in
theorem gX5_assign_X2_joinOrder : GoodIn wsX5_assign (wsV RX5 148 RX2 yX2_joinOrder wsX2_joinOrder) := goodIn_app (goodIn_of _ (by decide +kernel)) ggX5_assign_X2_joinOrder
theorem dX5_assign_0 : decode cX5_assign 0 = .ok (.aload_n 0, 1) := by decide +kernel
theorem dX5_assign_1 : decode cX5_assign 1 = .ok (.iload_n 1, 1) := by decide +kernel
theorem dX5_assign_2 : decode cX5_assign 2 = .ok (.invokevirtual 48, 3) := by decide +kernel
theorem dX5_assign_5 : decode cX5_assign 5 = .ok (.astore_n 3, 1) := by decide +kernel
theorem dX5_assign_6 : decode cX5_assign 6 = .ok (.aload_n 0, 1) := by decide +kernel
theorem dX5_assign_7 : decode cX5_assign 7 = .ok (.iload_n 2, 1) := by decide +kernel
theorem dX5_assign_8 : decode cX5_assign 8 = .ok (.invokevirtual 120, 3) := by decide +kernel
theorem dX5_assign_11 : decode cX5_assign 11 = .ok (.astore 4, 2) := by decide +kernel
theorem dX5_assign_13 : decode cX5_assign 13 = .ok (.aload_n 3, 1) := by decide +kernel
theorem dX5_assign_14 : decode cX5_assign 14 = .ok (.invokestatic 56, 3) := by decide +kernel
theorem dX5_assign_17 : decode cX5_assign 17 = .ok (.aload_n 3, 1) := by decide +kernel
theorem dX5_assign_18 : decode cX5_assign 18 = .ok (.getfield 124, 3) := by decide +kernel
theorem dX5_assign_21 : decode cX5_assign 21 = .ok (.ifnull 13, 3) := by decide +kernel
theorem dX5_assign_24 : decode cX5_assign 24 = .ok (.new 36, 3) := by decide +kernel
theorem dX5_assign_27 : decode cX5_assign 27 = .ok (.dup, 1) := by decide +kernel
theorem dX5_assign_28 : decode cX5_assign 28 = .ok (.ldc 128, 2) := by decide +kernel
theorem dX5_assign_30 : decode cX5_assign 30 = .ok (.invokespecial 40, 3) := by decide +kernel
theorem dX5_assign_33 : decode cX5_assign 33 = .ok (.athrow, 1) := by decide +kernel
theorem dX5_assign_34 : decode cX5_assign 34 = .ok (.aload_n 3, 1) := by decide +kernel
theorem dX5_assign_35 : decode cX5_assign 35 = .ok (.aload 4, 2) := by decide +kernel
theorem dX5_assign_37 : decode cX5_assign 37 = .ok (.getfield 130, 3) := by decide +kernel
theorem dX5_assign_40 : decode cX5_assign 40 = .ok (.invokevirtual 133, 3) := by decide +kernel
theorem dX5_assign_43 : decode cX5_assign 43 = .ok (.ifCond .ne 13, 3) := by decide +kernel
theorem dX5_assign_46 : decode cX5_assign 46 = .ok (.new 36, 3) := by decide +kernel
theorem dX5_assign_49 : decode cX5_assign 49 = .ok (.dup, 1) := by decide +kernel
theorem dX5_assign_50 : decode cX5_assign 50 = .ok (.ldc 137, 2) := by decide +kernel
theorem dX5_assign_52 : decode cX5_assign 52 = .ok (.invokespecial 40, 3) := by decide +kernel
theorem dX5_assign_55 : decode cX5_assign 55 = .ok (.athrow, 1) := by decide +kernel
theorem dX5_assign_56 : decode cX5_assign 56 = .ok (.aload 4, 2) := by decide +kernel
theorem dX5_assign_58 : decode cX5_assign 58 = .ok (.invokevirtual 139, 3) := by decide +kernel
theorem dX5_assign_61 : decode cX5_assign 61 = .ok (.ifCond .ne 11, 3) := by decide +kernel
theorem dX5_assign_64 : decode cX5_assign 64 = .ok (.aload 4, 2) := by decide +kernel
theorem dX5_assign_66 : decode cX5_assign 66 = .ok (.invokevirtual 143, 3) := by decide +kernel
theorem dX5_assign_69 : decode cX5_assign 69 = .ok (.ifCond .ne 13, 3) := by decide +kernel
theorem dX5_assign_72 : decode cX5_assign 72 = .ok (.new 36, 3) := by decide +kernel
theorem dX5_assign_75 : decode cX5_assign 75 = .ok (.dup, 1) := by decide +kernel
theorem dX5_assign_76 : decode cX5_assign 76 = .ok (.ldc 146, 2) := by decide +kernel
theorem dX5_assign_78 : decode cX5_assign 78 = .ok (.invokespecial 40, 3) := by decide +kernel
theorem dX5_assign_81 : decode cX5_assign 81 = .ok (.athrow, 1) := by decide +kernel
theorem dX5_assign_82 : decode cX5_assign 82 = .ok (.aload_n 3, 1) := by decide +kernel
theorem dX5_assign_83 : decode cX5_assign 83 = .ok (.aload 4, 2) := by decide +kernel
theorem dX5_assign_85 : decode cX5_assign 85 = .ok (.invokevirtual 148, 3) := by decide +kernel
theorem dX5_assign_88 : decode cX5_assign 88 = .ok (.aload 4, 2) := by decide +kernel
theorem dX5_assign_90 : decode cX5_assign 90 = .ok (.getfield 152, 3) := by decide +kernel
theorem dX5_assign_93 : decode cX5_assign 93 = .ok (.ireturn, 1) := by decide +kernel
set_option maxRecDepth 20000 in
theorem ggX5_takeOff_X5_findPerson : GoodIn wsX5_takeOff wsX5_findPerson := goodIn_ca (goodIn_r _ [9, 10, 11, 12, 42, 43, 44, 45, 46, 47] (by decide +kernel) (by decide +kernel)) (goodIn_sub (fun _ h => List.mem_cons_of_mem _ (List.mem_append_right _ h)) (by decide +kernel))
set_option maxRecDepth 20000 in
theorem gX5_takeOff_X5_findPerson : GoodIn wsX5_takeOff (wsV RX5 48 RX5 yX5_findPerson wsX5_findPerson) := goodIn_app (goodIn_of _ (by decide +kernel)) ggX5_takeOff_X5_findPerson
set_option maxRecDepth 20000 in
theorem ggX5_takeOff_X2_leaveOrder : GoodIn wsX5_takeOff wsX2_leaveOrder := goodIn_r _ [17, 18, 19, 20, 21, 22, 23, 24, 25, 26, 27, 28, 29, 30, 31, 32, 33, 34, 35, 36, 37, 38, 39, 40, 41, 48, 49] (by decide +kernel) (by decide +kernel)
set_option maxRecDepth 20000 in
theorem gX5_takeOff_X2_leaveOrder : GoodIn wsX5_takeOff (wsV RX5 157 RX2 yX2_leaveOrder wsX2_leaveOrder) := goodIn_app (goodIn_of _ (by decide +kernel)) ggX5_takeOff_X2_leaveOrder
theorem dX5_takeOff_0 : decode cX5_takeOff 0 = .ok (.aload_n 0, 1) := by decide +kernel
theorem dX5_takeOff_1 : decode cX5_takeOff 1 = .ok (.iload_n 1, 1) := by decide +kernel
theorem dX5_takeOff_2 : decode cX5_takeOff 2 = .ok (.invokevirtual 48, 3) := by decide +kernel
theorem dX5_takeOff_5 : decode cX5_takeOff 5 = .ok (.astore_n 2, 1) := by decide +kernel
theorem dX5_takeOff_6 : decode cX5_takeOff 6 = .ok (.aload_n 2, 1) := by decide +kernel
theorem dX5_takeOff_7 : decode cX5_takeOff 7 = .ok (.getfield 124, 3) := by decide +kernel
theorem dX5_takeOff_10 : decode cX5_takeOff 10 = .ok (.astore_n 3, 1) := by decide +kernel
theorem dX5_takeOff_11 : decode cX5_takeOff 11 = .ok (.aload_n 3, 1) := by decide +kernel
theorem dX5_takeOff_12 : decode cX5_takeOff 12 = .ok (.ifnonnull 13, 3) := by decide +kernel
theorem dX5_takeOff_15 : decode cX5_takeOff 15 = .ok (.new 36, 3) := by decide +kernel
theorem dX5_takeOff_18 : decode cX5_takeOff 18 = .ok (.dup, 1) := by decide +kernel
theorem dX5_takeOff_19 : decode cX5_takeOff 19 = .ok (.ldc 155, 2) := by decide +kernel
theorem dX5_takeOff_21 : decode cX5_takeOff 21 = .ok (.invokespecial 40, 3) := by decide +kernel
theorem dX5_takeOff_24 : decode cX5_takeOff 24 = .ok (.athrow, 1) := by decide +kernel
theorem dX5_takeOff_25 : decode cX5_takeOff 25 = .ok (.aload_n 2, 1) := by decide +kernel
theorem dX5_takeOff_26 : decode cX5_takeOff 26 = .ok (.invokevirtual 157, 3) := by decide +kernel
theorem dX5_takeOff_29 : decode cX5_takeOff 29 = .ok (.aload_n 3, 1) := by decide +kernel
theorem dX5_takeOff_30 : decode cX5_takeOff 30 = .ok (.getfield 160, 3) := by decide +kernel
theorem dX5_takeOff_33 : decode cX5_takeOff 33 = .ok (.ireturn, 1) := by decide +kernel
set_option maxRecDepth 20000 in
theorem ggX5_orderOf_X5_findPerson : GoodIn wsX5_orderOf wsX5_findPerson := goodIn_ca (goodIn_r _ [7, 8, 9, 10, 31, 32, 33, 34, 35, 36] (by decide +kernel) (by decide +kernel)) (goodIn_sub (fun _ h => List.mem_cons_of_mem _ (List.mem_append_right _ h)) (by decide +kernel))
set_option maxRecDepth 20000 in
theorem gX5_orderOf_X5_findPerson : GoodIn wsX5_orderOf (wsV RX5 48 RX5 yX5_findPerson wsX5_findPerson) := goodIn_app (goodIn_of _ (by decide +kernel)) ggX5_orderOf_X5_findPerson
theorem dX5_orderOf_0 : decode cX5_orderOf 0 = .ok (.aload_n 0, 1) := by decide +kernel
theorem dX5_orderOf_1 : decode cX5_orderOf 1 = .ok (.iload_n 1, 1) := by decide +kernel
theorem dX5_orderOf_2 : decode cX5_orderOf 2 = .ok (.invokevirtual 48, 3) := by decide +kernel
theorem dX5_orderOf_5 : decode cX5_orderOf 5 = .ok (.getfield 124, 3) := by decide +kernel
theorem dX5_orderOf_8 : decode cX5_orderOf 8 = .ok (.astore_n 2, 1) := by decide +kernel
theorem dX5_orderOf_9 : decode cX5_orderOf 9 = .ok (.aload_n 2, 1) := by decide +kernel
theorem dX5_orderOf_10 : decode cX5_orderOf 10 = .ok (.ifnonnull 7, 3) := by decide +kernel
theorem dX5_orderOf_13 : decode cX5_orderOf 13 = .ok (.iconst (-1), 1) := by decide +kernel
theorem dX5_orderOf_14 : decode cX5_orderOf 14 = .ok (.goto 7, 3) := by decide +kernel
theorem dX5_orderOf_17 : decode cX5_orderOf 17 = .ok (.aload_n 2, 1) := by decide +kernel
theorem dX5_orderOf_18 : decode cX5_orderOf 18 = .ok (.getfield 160, 3) := by decide +kernel
theorem dX5_orderOf_21 : decode cX5_orderOf 21 = .ok (.ireturn, 1) := by decide +kernel
set_option maxRecDepth 20000 in
theorem ggX5_left_X5_findOrder : GoodIn wsX5_left wsX5_findOrder := goodIn_ca (goodIn_r _ [6, 7, 8, 9, 16, 17, 18, 19, 20, 21] (by decide +kernel) (by decide +kernel)) (goodIn_sub (fun _ h => List.mem_cons_of_mem _ (List.mem_append_right _ h)) (by decide +kernel))
set_option maxRecDepth 20000 in
theorem gX5_left_X5_findOrder : GoodIn wsX5_left (wsV RX5 120 RX5 yX5_findOrder wsX5_findOrder) := goodIn_app (goodIn_of _ (by decide +kernel)) ggX5_left_X5_findOrder
theorem dX5_left_0 : decode cX5_left 0 = .ok (.aload_n 0, 1) := by decide +kernel
theorem dX5_left_1 : decode cX5_left 1 = .ok (.iload_n 1, 1) := by decide +kernel
theorem dX5_left_2 : decode cX5_left 2 = .ok (.invokevirtual 120, 3) := by decide +kernel
theorem dX5_left_5 : decode cX5_left 5 = .ok (.getfield 163, 3) := by decide +kernel
theorem dX5_left_8 : decode cX5_left 8 = .ok (.ireturn, 1) := by decide +kernel
set_option maxRecDepth 20000 in
theorem ggX5_account_X5_findPerson : GoodIn wsX5_account wsX5_findPerson := goodIn_ca (goodIn_r _ [9, 1, 2, 10, 29, 30, 31, 32, 33, 34] (by decide +kernel) (by decide +kernel)) (goodIn_sub (fun _ h => List.mem_cons_of_mem _ (List.mem_append_right _ h)) (by decide +kernel))
set_option maxRecDepth 20000 in
theorem gX5_account_X5_findPerson : GoodIn wsX5_account (wsV RX5 48 RX5 yX5_findPerson wsX5_findPerson) := goodIn_app (goodIn_of _ (by decide +kernel)) ggX5_account_X5_findPerson
theorem dX5_account_0 : decode cX5_account 0 = .ok (.aload_n 0, 1) := by decide +kernel
theorem dX5_account_1 : decode cX5_account 1 = .ok (.iload_n 1, 1) := by decide +kernel
theorem dX5_account_2 : decode cX5_account 2 = .ok (.invokevirtual 48, 3) := by decide +kernel
theorem dX5_account_5 : decode cX5_account 5 = .ok (.getfield 166, 3) := by decide +kernel
theorem dX5_account_8 : decode cX5_account 8 = .ok (.getfield 170, 3) := by decide +kernel
theorem dX5_account_11 : decode cX5_account 11 = .ok (.astore_n 3, 1) := by decide +kernel
theorem dX5_account_12 : decode cX5_account 12 = .ok (.iload_n 2, 1) := by decide +kernel
theorem dX5_account_13 : decode cX5_account 13 = .ok (.ifCond .lt 9, 3) := by decide +kernel
theorem dX5_account_16 : decode cX5_account 16 = .ok (.iload_n 2, 1) := by decide +kernel
theorem dX5_account_17 : decode cX5_account 17 = .ok (.aload_n 3, 1) := by decide +kernel
theorem dX5_account_18 : decode cX5_account 18 = .ok (.arraylength, 1) := by decide +kernel
theorem dX5_account_19 : decode cX5_account 19 = .ok (.if_icmp .lt 13, 3) := by decide +kernel
theorem dX5_account_22 : decode cX5_account 22 = .ok (.new 176, 3) := by decide +kernel
theorem dX5_account_25 : decode cX5_account 25 = .ok (.dup, 1) := by decide +kernel
theorem dX5_account_26 : decode cX5_account 26 = .ok (.ldc 178, 2) := by decide +kernel
theorem dX5_account_28 : decode cX5_account 28 = .ok (.invokespecial 180, 3) := by decide +kernel
theorem dX5_account_31 : decode cX5_account 31 = .ok (.athrow, 1) := by decide +kernel
theorem dX5_account_32 : decode cX5_account 32 = .ok (.aload_n 3, 1) := by decide +kernel
theorem dX5_account_33 : decode cX5_account 33 = .ok (.iload_n 2, 1) := by decide +kernel
theorem dX5_account_34 : decode cX5_account 34 = .ok (.iaload, 1) := by decide +kernel
theorem dX5_account_35 : decode cX5_account 35 = .ok (.ireturn, 1) := by decide +kernel
set_option maxRecDepth 20000 in
theorem ggX5_buy_X5_findPerson : GoodIn wsX5_buy wsX5_findPerson := goodIn_ca (goodIn_r _ [10, 11, 12, 13, 78, 79, 80, 81, 82, 83] (by decide +kernel) (by decide +kernel)) (goodIn_sub (fun _ h => List.mem_cons_of_mem _ (List.mem_append_left _ (List.mem_append_right _ h))) (by decide +kernel))
set_option maxRecDepth 20000 in
theorem gX5_buy_X5_findPerson : GoodIn wsX5_buy (wsV RX5 48 RX5 yX5_findPerson wsX5_findPerson) := goodIn_app (goodIn_of _ (by decide +kernel)) ggX5_buy_X5_findPerson
set_option maxRecDepth 20000 in
theorem ggX5_buy_X5_checkRange : GoodIn wsX5_buy wsX5_checkRange := goodIn_ca (goodIn_r _ [16, 17, 18] (by decide +kernel) (by decide +kernel)) (goodIn_sub (fun _ h => List.mem_cons_of_mem _ (List.mem_append_right _ h)) (by decide +kernel))
set_option maxRecDepth 20000 in
theorem gX5_buy_X5_checkRange : GoodIn wsX5_buy (va_wsS RX5 28 yX5_checkRange wsX5_checkRange) := goodIn_app (goodIn_of _ (by decide +kernel)) ggX5_buy_X5_checkRange
set_option maxRecDepth 20000 in
theorem ggX5_buy_X5_checkIn : GoodIn wsX5_buy wsX5_checkIn := goodIn_ca (goodIn_r _ [21, 1, 2, 22, 60, 61, 62, 63, 64, 65, 66, 67, 68, 69, 70, 71, 72, 73] (by decide +kernel) (by decide +kernel)) (goodIn_sub (fun _ h => List.mem_cons_of_mem _ (List.mem_append_left _ (List.mem_append_left _ (List.mem_append_right _ h)))) (by decide +kernel))
set_option maxRecDepth 20000 in
theorem gX5_buy_X5_checkIn : GoodIn wsX5_buy (va_wsS RX5 56 yX5_checkIn wsX5_checkIn) := goodIn_app (goodIn_of _ (by decide +kernel)) ggX5_buy_X5_checkIn
set_option maxRecDepth 20000 in
theorem ggX5_buy_X2_mayStillBuy : GoodIn wsX5_buy wsX2_mayStillBuy := goodIn_r _ [27, 28, 29, 30, 31, 32, 33, 34, 35, 36, 26, 37, 38, 39, 40, 41, 42, 43, 44, 45, 46, 47, 48, 49, 50, 51, 52, 53, 60, 61, 62, 63, 64, 65, 66, 67, 68, 69, 70, 71, 72, 73, 84, 85, 86, 87, 74, 75, 76, 77] (by decide +kernel) (by decide +kernel)
set_option maxRecDepth 20000 in
theorem gX5_buy_X2_mayStillBuy : GoodIn wsX5_buy (wsV RX5 183 RX2 yX2_mayStillBuy wsX2_mayStillBuy) := goodIn_app (goodIn_of _ (by decide +kernel)) ggX5_buy_X2_mayStillBuy
set_option maxRecDepth 20000 in
theorem ggX5_buy_X3_spend : GoodIn wsX5_buy wsX3_spend := goodIn_r _ [57, 53, 52, 58, 59, 48, 49, 50, 51, 74, 75, 76, 77] (by decide +kernel) (by decide +kernel)
set_option maxRecDepth 20000 in
theorem gX5_buy_X3_spend : GoodIn wsX5_buy (wsV RX5 189 RX3 yX3_spend wsX3_spend) := goodIn_app (goodIn_of _ (by decide +kernel)) ggX5_buy_X3_spend
theorem dX5_buy_0 : decode cX5_buy 0 = .ok (.aload_n 0, 1) := by decide +kernel
theorem dX5_buy_1 : decode cX5_buy 1 = .ok (.iload_n 1, 1) := by decide +kernel
theorem dX5_buy_2 : decode cX5_buy 2 = .ok (.invokevirtual 48, 3) := by decide +kernel
theorem dX5_buy_5 : decode cX5_buy 5 = .ok (.astore_n 3, 1) := by decide +kernel
theorem dX5_buy_6 : decode cX5_buy 6 = .ok (.iload_n 2, 1) := by decide +kernel
theorem dX5_buy_7 : decode cX5_buy 7 = .ok (.iconst 1, 1) := by decide +kernel
theorem dX5_buy_8 : decode cX5_buy 8 = .ok (.sipush 1000, 3) := by decide +kernel
theorem dX5_buy_11 : decode cX5_buy 11 = .ok (.invokestatic 28, 3) := by decide +kernel
theorem dX5_buy_14 : decode cX5_buy 14 = .ok (.aload_n 3, 1) := by decide +kernel
theorem dX5_buy_15 : decode cX5_buy 15 = .ok (.invokestatic 56, 3) := by decide +kernel
theorem dX5_buy_18 : decode cX5_buy 18 = .ok (.aload_n 3, 1) := by decide +kernel
theorem dX5_buy_19 : decode cX5_buy 19 = .ok (.getfield 166, 3) := by decide +kernel
theorem dX5_buy_22 : decode cX5_buy 22 = .ok (.astore 4, 2) := by decide +kernel
theorem dX5_buy_24 : decode cX5_buy 24 = .ok (.aload 4, 2) := by decide +kernel
theorem dX5_buy_26 : decode cX5_buy 26 = .ok (.getfield 170, 3) := by decide +kernel
theorem dX5_buy_29 : decode cX5_buy 29 = .ok (.iconst 3, 1) := by decide +kernel
theorem dX5_buy_30 : decode cX5_buy 30 = .ok (.iaload, 1) := by decide +kernel
theorem dX5_buy_31 : decode cX5_buy 31 = .ok (.iload_n 2, 1) := by decide +kernel
theorem dX5_buy_32 : decode cX5_buy 32 = .ok (.if_icmp .ge 13, 3) := by decide +kernel
theorem dX5_buy_35 : decode cX5_buy 35 = .ok (.new 36, 3) := by decide +kernel
theorem dX5_buy_38 : decode cX5_buy 38 = .ok (.dup, 1) := by decide +kernel
theorem dX5_buy_39 : decode cX5_buy 39 = .ok (.ldc 181, 2) := by decide +kernel
theorem dX5_buy_41 : decode cX5_buy 41 = .ok (.invokespecial 40, 3) := by decide +kernel
theorem dX5_buy_44 : decode cX5_buy 44 = .ok (.athrow, 1) := by decide +kernel
theorem dX5_buy_45 : decode cX5_buy 45 = .ok (.aload_n 3, 1) := by decide +kernel
theorem dX5_buy_46 : decode cX5_buy 46 = .ok (.aload_n 0, 1) := by decide +kernel
theorem dX5_buy_47 : decode cX5_buy 47 = .ok (.getfield 43, 3) := by decide +kernel
theorem dX5_buy_50 : decode cX5_buy 50 = .ok (.invokevirtual 183, 3) := by decide +kernel
theorem dX5_buy_53 : decode cX5_buy 53 = .ok (.iload_n 2, 1) := by decide +kernel
theorem dX5_buy_54 : decode cX5_buy 54 = .ok (.if_icmp .ge 13, 3) := by decide +kernel
theorem dX5_buy_57 : decode cX5_buy 57 = .ok (.new 36, 3) := by decide +kernel
theorem dX5_buy_60 : decode cX5_buy 60 = .ok (.dup, 1) := by decide +kernel
theorem dX5_buy_61 : decode cX5_buy 61 = .ok (.ldc 187, 2) := by decide +kernel
theorem dX5_buy_63 : decode cX5_buy 63 = .ok (.invokespecial 40, 3) := by decide +kernel
theorem dX5_buy_66 : decode cX5_buy 66 = .ok (.athrow, 1) := by decide +kernel
theorem dX5_buy_67 : decode cX5_buy 67 = .ok (.aload 4, 2) := by decide +kernel
theorem dX5_buy_69 : decode cX5_buy 69 = .ok (.iload_n 2, 1) := by decide +kernel
theorem dX5_buy_70 : decode cX5_buy 70 = .ok (.aload_n 0, 1) := by decide +kernel
theorem dX5_buy_71 : decode cX5_buy 71 = .ok (.getfield 43, 3) := by decide +kernel
theorem dX5_buy_74 : decode cX5_buy 74 = .ok (.bipush 7, 2) := by decide +kernel
theorem dX5_buy_76 : decode cX5_buy 76 = .ok (.idiv, 1) := by decide +kernel
theorem dX5_buy_77 : decode cX5_buy 77 = .ok (.invokevirtual 189, 3) := by decide +kernel
theorem dX5_buy_80 : decode cX5_buy 80 = .ok (.aload 4, 2) := by decide +kernel
theorem dX5_buy_82 : decode cX5_buy 82 = .ok (.getfield 170, 3) := by decide +kernel
theorem dX5_buy_85 : decode cX5_buy 85 = .ok (.iconst 3, 1) := by decide +kernel
theorem dX5_buy_86 : decode cX5_buy 86 = .ok (.iaload, 1) := by decide +kernel
theorem dX5_buy_87 : decode cX5_buy 87 = .ok (.ireturn, 1) := by decide +kernel
set_option maxRecDepth 20000 in
theorem ggX5_limit_X5_findPerson : GoodIn wsX5_limit wsX5_findPerson := goodIn_ca (goodIn_r _ [6, 7, 8, 9, 41, 42, 43, 44, 45, 46] (by decide +kernel) (by decide +kernel)) (goodIn_sub (fun _ h => List.mem_cons_of_mem _ (List.mem_append_right _ h)) (by decide +kernel))
set_option maxRecDepth 20000 in
theorem gX5_limit_X5_findPerson : GoodIn wsX5_limit (wsV RX5 48 RX5 yX5_findPerson wsX5_findPerson) := goodIn_app (goodIn_of _ (by decide +kernel)) ggX5_limit_X5_findPerson
set_option maxRecDepth 20000 in
theorem ggX5_limit_X2_mayStillBuy : GoodIn wsX5_limit wsX2_mayStillBuy := goodIn_r _ [14, 15, 16, 17, 18, 19, 20, 21, 22, 23, 13, 24, 25, 26, 27, 28, 29, 30, 31, 32, 33, 34, 35, 36, 37, 38, 39, 40, 47, 48, 49, 50, 51, 52, 53, 54, 55, 56, 57, 58, 59, 60, 61, 62, 63, 64, 65, 66, 67, 68] (by decide +kernel) (by decide +kernel)
set_option maxRecDepth 20000 in
theorem gX5_limit_X2_mayStillBuy : GoodIn wsX5_limit (wsV RX5 183 RX2 yX2_mayStillBuy wsX2_mayStillBuy) := goodIn_app (goodIn_of _ (by decide +kernel)) ggX5_limit_X2_mayStillBuy
theorem dX5_limit_0 : decode cX5_limit 0 = .ok (.aload_n 0, 1) := by decide +kernel
theorem dX5_limit_1 : decode cX5_limit 1 = .ok (.iload_n 1, 1) := by decide +kernel
theorem dX5_limit_2 : decode cX5_limit 2 = .ok (.invokevirtual 48, 3) := by decide +kernel
theorem dX5_limit_5 : decode cX5_limit 5 = .ok (.aload_n 0, 1) := by decide +kernel
theorem dX5_limit_6 : decode cX5_limit 6 = .ok (.getfield 43, 3) := by decide +kernel
theorem dX5_limit_9 : decode cX5_limit 9 = .ok (.invokevirtual 183, 3) := by decide +kernel
theorem dX5_limit_12 : decode cX5_limit 12 = .ok (.ireturn, 1) := by decide +kernel
set_option maxRecDepth 20000 in
theorem ggX5_paidOut_X5_findPerson : GoodIn wsX5_paidOut wsX5_findPerson := goodIn_ca (goodIn_r _ [7, 8, 9, 10, 29, 30, 31, 32, 33, 34] (by decide +kernel) (by decide +kernel)) (goodIn_sub (fun _ h => List.mem_cons_of_mem _ (List.mem_append_right _ h)) (by decide +kernel))
set_option maxRecDepth 20000 in
theorem gX5_paidOut_X5_findPerson : GoodIn wsX5_paidOut (wsV RX5 48 RX5 yX5_findPerson wsX5_findPerson) := goodIn_app (goodIn_of _ (by decide +kernel)) ggX5_paidOut_X5_findPerson
theorem dX5_paidOut_0 : decode cX5_paidOut 0 = .ok (.aload_n 0, 1) := by decide +kernel
theorem dX5_paidOut_1 : decode cX5_paidOut 1 = .ok (.iload_n 1, 1) := by decide +kernel
theorem dX5_paidOut_2 : decode cX5_paidOut 2 = .ok (.invokevirtual 48, 3) := by decide +kernel
theorem dX5_paidOut_5 : decode cX5_paidOut 5 = .ok (.getfield 166, 3) := by decide +kernel
theorem dX5_paidOut_8 : decode cX5_paidOut 8 = .ok (.getfield 192, 3) := by decide +kernel
theorem dX5_paidOut_11 : decode cX5_paidOut 11 = .ok (.ireturn, 1) := by decide +kernel
set_option maxRecDepth 20000 in
theorem ggX5_pass_X5_checkRange : GoodIn wsX5_pass wsX5_checkRange := goodIn_ca (goodIn_r _ [5, 6, 7] (by decide +kernel) (by decide +kernel)) (goodIn_sub (fun _ h => List.mem_cons_of_mem _ (List.mem_append_right _ h)) (by decide +kernel))
set_option maxRecDepth 20000 in
theorem gX5_pass_X5_checkRange : GoodIn wsX5_pass (va_wsS RX5 28 yX5_checkRange wsX5_checkRange) := goodIn_app (goodIn_of _ (by decide +kernel)) ggX5_pass_X5_checkRange
set_option maxRecDepth 20000 in
theorem ggX5_pass_X5_workInTheShop : GoodIn wsX5_pass wsX5_workInTheShop := goodIn_r _ [11, 12, 13, 14, 15, 16, 17, 18, 19, 20, 21, 22, 23, 24, 25, 26, 27, 28, 29, 30, 31, 32, 33, 34, 35, 36, 37, 38, 39, 40, 41, 42, 43, 44, 45, 81, 82, 83, 84, 85, 86, 87, 88, 89, 90, 91, 92, 93, 94, 95, 96, 97, 98, 99, 100, 101, 102, 103, 104, 105, 106, 107, 108, 109, 110, 111, 112] (by decide +kernel) (by decide +kernel)
set_option maxRecDepth 20000 in
theorem gX5_pass_X5_workInTheShop : GoodIn wsX5_pass (wsV RX5 195 RX5 yX5_workInTheShop wsX5_workInTheShop) := goodIn_app (goodIn_of _ (by decide +kernel)) ggX5_pass_X5_workInTheShop
set_option maxRecDepth 20000 in
theorem ggX5_pass_X5_letGoThoseDue : GoodIn wsX5_pass wsX5_letGoThoseDue := goodIn_r _ [49, 12, 1, 50, 51, 52, 16, 53, 54, 55, 56, 57, 58, 59, 60, 61, 62, 63, 64, 65, 66, 67, 68, 69, 70, 20, 71, 72, 73, 74, 75, 21, 39, 40, 41, 42, 18, 43, 44, 45, 76, 77, 78, 32, 79, 34, 80, 81, 82, 83, 84, 85, 86, 87, 88, 89, 90, 91, 92, 93, 94, 95, 96, 97, 98, 99, 100, 101, 102, 103, 104, 105, 106, 111, 112, 107, 108, 109, 110] (by decide +kernel) (by decide +kernel)
set_option maxRecDepth 20000 in
theorem gX5_pass_X5_letGoThoseDue : GoodIn wsX5_pass (wsV RX5 198 RX5 yX5_letGoThoseDue wsX5_letGoThoseDue) := goodIn_app (goodIn_of _ (by decide +kernel)) ggX5_pass_X5_letGoThoseDue
theorem dX5_pass_0 : decode cX5_pass 0 = .ok (.iload_n 1, 1) := by decide +kernel
theorem dX5_pass_1 : decode cX5_pass 1 = .ok (.iconst 1, 1) := by decide +kernel
theorem dX5_pass_2 : decode cX5_pass 2 = .ok (.bipush 100, 2) := by decide +kernel
theorem dX5_pass_4 : decode cX5_pass 4 = .ok (.invokestatic 28, 3) := by decide +kernel
theorem dX5_pass_7 : decode cX5_pass 7 = .ok (.iconst 0, 1) := by decide +kernel
theorem dX5_pass_8 : decode cX5_pass 8 = .ok (.istore_n 2, 1) := by decide +kernel
theorem dX5_pass_9 : decode cX5_pass 9 = .ok (.iconst 0, 1) := by decide +kernel
theorem dX5_pass_10 : decode cX5_pass 10 = .ok (.istore_n 3, 1) := by decide +kernel
theorem dX5_pass_11 : decode cX5_pass 11 = .ok (.iload_n 3, 1) := by decide +kernel
theorem dX5_pass_12 : decode cX5_pass 12 = .ok (.iload_n 1, 1) := by decide +kernel
theorem dX5_pass_13 : decode cX5_pass 13 = .ok (.if_icmp .ge 30, 3) := by decide +kernel
theorem dX5_pass_16 : decode cX5_pass 16 = .ok (.aload_n 0, 1) := by decide +kernel
theorem dX5_pass_17 : decode cX5_pass 17 = .ok (.invokevirtual 195, 3) := by decide +kernel
theorem dX5_pass_20 : decode cX5_pass 20 = .ok (.aload_n 0, 1) := by decide +kernel
theorem dX5_pass_21 : decode cX5_pass 21 = .ok (.dup, 1) := by decide +kernel
theorem dX5_pass_22 : decode cX5_pass 22 = .ok (.getfield 43, 3) := by decide +kernel
theorem dX5_pass_25 : decode cX5_pass 25 = .ok (.iconst 1, 1) := by decide +kernel
theorem dX5_pass_26 : decode cX5_pass 26 = .ok (.iadd, 1) := by decide +kernel
theorem dX5_pass_27 : decode cX5_pass 27 = .ok (.putfield 43, 3) := by decide +kernel
theorem dX5_pass_30 : decode cX5_pass 30 = .ok (.iload_n 2, 1) := by decide +kernel
theorem dX5_pass_31 : decode cX5_pass 31 = .ok (.aload_n 0, 1) := by decide +kernel
theorem dX5_pass_32 : decode cX5_pass 32 = .ok (.invokevirtual 198, 3) := by decide +kernel
theorem dX5_pass_35 : decode cX5_pass 35 = .ok (.iadd, 1) := by decide +kernel
theorem dX5_pass_36 : decode cX5_pass 36 = .ok (.istore_n 2, 1) := by decide +kernel
theorem dX5_pass_37 : decode cX5_pass 37 = .ok (.iinc 3 1, 3) := by decide +kernel
theorem dX5_pass_40 : decode cX5_pass 40 = .ok (.goto (-29), 3) := by decide +kernel
theorem dX5_pass_43 : decode cX5_pass 43 = .ok (.iload_n 2, 1) := by decide +kernel
theorem dX5_pass_44 : decode cX5_pass 44 = .ok (.ireturn, 1) := by decide +kernel
set_option maxRecDepth 20000 in
theorem ggX5_workInTheShop_X2_workOneDay : GoodIn wsX5_workInTheShop wsX2_workOneDay := goodIn_r _ [6, 7, 8, 9, 10, 11, 12, 13, 14, 15, 16, 17, 18, 19, 20, 21, 22, 23, 41, 42, 43, 44, 45, 46, 47, 48, 49, 50, 51, 52, 53, 54, 55, 56, 57, 58, 59, 60, 61, 62, 63, 64] (by decide +kernel) (by decide +kernel)
set_option maxRecDepth 20000 in
theorem gX5_workInTheShop_X2_workOneDay : GoodIn wsX5_workInTheShop (wsV RX5 201 RX2 yX2_workOneDay wsX2_workOneDay) := goodIn_app (goodIn_of _ (by decide +kernel)) ggX5_workInTheShop_X2_workOneDay
set_option maxRecDepth 20000 in
theorem ggX5_workInTheShop_X2_leaveFinishedOrder : GoodIn wsX5_workInTheShop wsX2_leaveFinishedOrder := goodIn_r _ [27, 7, 12, 13, 14, 15, 16, 17, 28, 29, 30, 5, 31, 32, 33, 34, 41, 42, 43, 44, 45, 46, 47, 48, 49, 50, 51, 52, 53, 54, 55, 56, 57, 58, 59, 60, 65, 66] (by decide +kernel) (by decide +kernel)
set_option maxRecDepth 20000 in
theorem gX5_workInTheShop_X2_leaveFinishedOrder : GoodIn wsX5_workInTheShop (wsV RX5 204 RX2 yX2_leaveFinishedOrder wsX2_leaveFinishedOrder) := goodIn_app (goodIn_of _ (by decide +kernel)) ggX5_workInTheShop_X2_leaveFinishedOrder
theorem dX5_workInTheShop_0 : decode cX5_workInTheShop 0 = .ok (.aload_n 0, 1) := by decide +kernel
theorem dX5_workInTheShop_1 : decode cX5_workInTheShop 1 = .ok (.getfield 11, 3) := by decide +kernel
theorem dX5_workInTheShop_4 : decode cX5_workInTheShop 4 = .ok (.astore_n 1, 1) := by decide +kernel
theorem dX5_workInTheShop_5 : decode cX5_workInTheShop 5 = .ok (.aload_n 1, 1) := by decide +kernel
theorem dX5_workInTheShop_6 : decode cX5_workInTheShop 6 = .ok (.arraylength, 1) := by decide +kernel
theorem dX5_workInTheShop_7 : decode cX5_workInTheShop 7 = .ok (.istore_n 2, 1) := by decide +kernel
theorem dX5_workInTheShop_8 : decode cX5_workInTheShop 8 = .ok (.iconst 0, 1) := by decide +kernel
theorem dX5_workInTheShop_9 : decode cX5_workInTheShop 9 = .ok (.istore_n 3, 1) := by decide +kernel
theorem dX5_workInTheShop_10 : decode cX5_workInTheShop 10 = .ok (.iload_n 3, 1) := by decide +kernel
theorem dX5_workInTheShop_11 : decode cX5_workInTheShop 11 = .ok (.iload_n 2, 1) := by decide +kernel
theorem dX5_workInTheShop_12 : decode cX5_workInTheShop 12 = .ok (.if_icmp .ge 24, 3) := by decide +kernel
theorem dX5_workInTheShop_15 : decode cX5_workInTheShop 15 = .ok (.aload_n 1, 1) := by decide +kernel
theorem dX5_workInTheShop_16 : decode cX5_workInTheShop 16 = .ok (.iload_n 3, 1) := by decide +kernel
theorem dX5_workInTheShop_17 : decode cX5_workInTheShop 17 = .ok (.aaload, 1) := by decide +kernel
theorem dX5_workInTheShop_18 : decode cX5_workInTheShop 18 = .ok (.astore 4, 2) := by decide +kernel
theorem dX5_workInTheShop_20 : decode cX5_workInTheShop 20 = .ok (.aload 4, 2) := by decide +kernel
theorem dX5_workInTheShop_22 : decode cX5_workInTheShop 22 = .ok (.ifnull 8, 3) := by decide +kernel
theorem dX5_workInTheShop_25 : decode cX5_workInTheShop 25 = .ok (.aload 4, 2) := by decide +kernel
theorem dX5_workInTheShop_27 : decode cX5_workInTheShop 27 = .ok (.invokevirtual 201, 3) := by decide +kernel
theorem dX5_workInTheShop_30 : decode cX5_workInTheShop 30 = .ok (.iinc 3 1, 3) := by decide +kernel
theorem dX5_workInTheShop_33 : decode cX5_workInTheShop 33 = .ok (.goto (-23), 3) := by decide +kernel
theorem dX5_workInTheShop_36 : decode cX5_workInTheShop 36 = .ok (.aload_n 0, 1) := by decide +kernel
theorem dX5_workInTheShop_37 : decode cX5_workInTheShop 37 = .ok (.getfield 11, 3) := by decide +kernel
theorem dX5_workInTheShop_40 : decode cX5_workInTheShop 40 = .ok (.astore_n 1, 1) := by decide +kernel
theorem dX5_workInTheShop_41 : decode cX5_workInTheShop 41 = .ok (.aload_n 1, 1) := by decide +kernel
theorem dX5_workInTheShop_42 : decode cX5_workInTheShop 42 = .ok (.arraylength, 1) := by decide +kernel
theorem dX5_workInTheShop_43 : decode cX5_workInTheShop 43 = .ok (.istore_n 2, 1) := by decide +kernel
theorem dX5_workInTheShop_44 : decode cX5_workInTheShop 44 = .ok (.iconst 0, 1) := by decide +kernel
theorem dX5_workInTheShop_45 : decode cX5_workInTheShop 45 = .ok (.istore_n 3, 1) := by decide +kernel
theorem dX5_workInTheShop_46 : decode cX5_workInTheShop 46 = .ok (.iload_n 3, 1) := by decide +kernel
theorem dX5_workInTheShop_47 : decode cX5_workInTheShop 47 = .ok (.iload_n 2, 1) := by decide +kernel
theorem dX5_workInTheShop_48 : decode cX5_workInTheShop 48 = .ok (.if_icmp .ge 24, 3) := by decide +kernel
theorem dX5_workInTheShop_51 : decode cX5_workInTheShop 51 = .ok (.aload_n 1, 1) := by decide +kernel
theorem dX5_workInTheShop_52 : decode cX5_workInTheShop 52 = .ok (.iload_n 3, 1) := by decide +kernel
theorem dX5_workInTheShop_53 : decode cX5_workInTheShop 53 = .ok (.aaload, 1) := by decide +kernel
theorem dX5_workInTheShop_54 : decode cX5_workInTheShop 54 = .ok (.astore 4, 2) := by decide +kernel
theorem dX5_workInTheShop_56 : decode cX5_workInTheShop 56 = .ok (.aload 4, 2) := by decide +kernel
theorem dX5_workInTheShop_58 : decode cX5_workInTheShop 58 = .ok (.ifnull 8, 3) := by decide +kernel
theorem dX5_workInTheShop_61 : decode cX5_workInTheShop 61 = .ok (.aload 4, 2) := by decide +kernel
theorem dX5_workInTheShop_63 : decode cX5_workInTheShop 63 = .ok (.invokevirtual 204, 3) := by decide +kernel
theorem dX5_workInTheShop_66 : decode cX5_workInTheShop 66 = .ok (.iinc 3 1, 3) := by decide +kernel
theorem dX5_workInTheShop_69 : decode cX5_workInTheShop 69 = .ok (.goto (-23), 3) := by decide +kernel
theorem dX5_workInTheShop_72 : decode cX5_workInTheShop 72 = .ok (.return_, 1) := by decide +kernel
set_option maxRecDepth 20000 in
theorem ggX5_letGoThoseDue_X2_isDue : GoodIn wsX5_letGoThoseDue wsX2_isDue := goodIn_r _ [7, 8, 9, 10, 11, 6, 12, 13, 14, 15, 16, 17, 18, 19, 20, 21, 22, 23, 24, 25, 26, 53, 54, 55, 56, 57, 58, 59, 60, 61, 62, 63, 64, 65, 66] (by decide +kernel) (by decide +kernel)
set_option maxRecDepth 20000 in
theorem gX5_letGoThoseDue_X2_isDue : GoodIn wsX5_letGoThoseDue (wsV RX5 207 RX2 yX2_isDue wsX2_isDue) := goodIn_app (goodIn_of _ (by decide +kernel)) ggX5_letGoThoseDue_X2_isDue
set_option maxRecDepth 20000 in
theorem ggX5_letGoThoseDue_X2_letGo : GoodIn wsX5_letGoThoseDue wsX2_letGo := goodIn_r _ [30, 31, 13, 8, 32, 33, 34, 6, 35, 36, 37, 38, 39, 40, 41, 42, 43, 44, 45, 46, 53, 54, 55, 56, 57, 58, 59, 60, 61, 62, 63, 64, 65, 66, 67, 68, 69, 70, 71, 72, 73, 74, 75, 76, 77, 78] (by decide +kernel) (by decide +kernel)
set_option maxRecDepth 20000 in
theorem gX5_letGoThoseDue_X2_letGo : GoodIn wsX5_letGoThoseDue (wsV RX5 210 RX2 yX2_letGo wsX2_letGo) := goodIn_app (goodIn_of _ (by decide +kernel)) ggX5_letGoThoseDue_X2_letGo
theorem dX5_letGoThoseDue_0 : decode cX5_letGoThoseDue 0 = .ok (.iconst 0, 1) := by decide +kernel
theorem dX5_letGoThoseDue_1 : decode cX5_letGoThoseDue 1 = .ok (.istore_n 1, 1) := by decide +kernel
theorem dX5_letGoThoseDue_2 : decode cX5_letGoThoseDue 2 = .ok (.aload_n 0, 1) := by decide +kernel
theorem dX5_letGoThoseDue_3 : decode cX5_letGoThoseDue 3 = .ok (.getfield 11, 3) := by decide +kernel
theorem dX5_letGoThoseDue_6 : decode cX5_letGoThoseDue 6 = .ok (.astore_n 2, 1) := by decide +kernel
theorem dX5_letGoThoseDue_7 : decode cX5_letGoThoseDue 7 = .ok (.aload_n 2, 1) := by decide +kernel
theorem dX5_letGoThoseDue_8 : decode cX5_letGoThoseDue 8 = .ok (.arraylength, 1) := by decide +kernel
theorem dX5_letGoThoseDue_9 : decode cX5_letGoThoseDue 9 = .ok (.istore_n 3, 1) := by decide +kernel
theorem dX5_letGoThoseDue_10 : decode cX5_letGoThoseDue 10 = .ok (.iconst 0, 1) := by decide +kernel
theorem dX5_letGoThoseDue_11 : decode cX5_letGoThoseDue 11 = .ok (.istore 4, 2) := by decide +kernel
theorem dX5_letGoThoseDue_13 : decode cX5_letGoThoseDue 13 = .ok (.iload 4, 2) := by decide +kernel
theorem dX5_letGoThoseDue_15 : decode cX5_letGoThoseDue 15 = .ok (.iload_n 3, 1) := by decide +kernel
theorem dX5_letGoThoseDue_16 : decode cX5_letGoThoseDue 16 = .ok (.if_icmp .ge 44, 3) := by decide +kernel
theorem dX5_letGoThoseDue_19 : decode cX5_letGoThoseDue 19 = .ok (.aload_n 2, 1) := by decide +kernel
theorem dX5_letGoThoseDue_20 : decode cX5_letGoThoseDue 20 = .ok (.iload 4, 2) := by decide +kernel
theorem dX5_letGoThoseDue_22 : decode cX5_letGoThoseDue 22 = .ok (.aaload, 1) := by decide +kernel
theorem dX5_letGoThoseDue_23 : decode cX5_letGoThoseDue 23 = .ok (.astore 5, 2) := by decide +kernel
theorem dX5_letGoThoseDue_25 : decode cX5_letGoThoseDue 25 = .ok (.aload 5, 2) := by decide +kernel
theorem dX5_letGoThoseDue_27 : decode cX5_letGoThoseDue 27 = .ok (.ifnull 27, 3) := by decide +kernel
theorem dX5_letGoThoseDue_30 : decode cX5_letGoThoseDue 30 = .ok (.aload 5, 2) := by decide +kernel
theorem dX5_letGoThoseDue_32 : decode cX5_letGoThoseDue 32 = .ok (.aload_n 0, 1) := by decide +kernel
theorem dX5_letGoThoseDue_33 : decode cX5_letGoThoseDue 33 = .ok (.getfield 43, 3) := by decide +kernel
theorem dX5_letGoThoseDue_36 : decode cX5_letGoThoseDue 36 = .ok (.invokevirtual 207, 3) := by decide +kernel
theorem dX5_letGoThoseDue_39 : decode cX5_letGoThoseDue 39 = .ok (.ifCond .eq 15, 3) := by decide +kernel
theorem dX5_letGoThoseDue_42 : decode cX5_letGoThoseDue 42 = .ok (.aload 5, 2) := by decide +kernel
theorem dX5_letGoThoseDue_44 : decode cX5_letGoThoseDue 44 = .ok (.aload_n 0, 1) := by decide +kernel
theorem dX5_letGoThoseDue_45 : decode cX5_letGoThoseDue 45 = .ok (.getfield 43, 3) := by decide +kernel
theorem dX5_letGoThoseDue_48 : decode cX5_letGoThoseDue 48 = .ok (.invokevirtual 210, 3) := by decide +kernel
theorem dX5_letGoThoseDue_51 : decode cX5_letGoThoseDue 51 = .ok (.iinc 1 1, 3) := by decide +kernel
theorem dX5_letGoThoseDue_54 : decode cX5_letGoThoseDue 54 = .ok (.iinc 4 1, 3) := by decide +kernel
theorem dX5_letGoThoseDue_57 : decode cX5_letGoThoseDue 57 = .ok (.goto (-44), 3) := by decide +kernel
theorem dX5_letGoThoseDue_60 : decode cX5_letGoThoseDue 60 = .ok (.iload_n 1, 1) := by decide +kernel
theorem dX5_letGoThoseDue_61 : decode cX5_letGoThoseDue 61 = .ok (.ireturn, 1) := by decide +kernel
theorem dX5_findPerson_0 : decode cX5_findPerson 0 = .ok (.iload_n 1, 1) := by decide +kernel
theorem dX5_findPerson_1 : decode cX5_findPerson 1 = .ok (.ifCond .lt 12, 3) := by decide +kernel
theorem dX5_findPerson_4 : decode cX5_findPerson 4 = .ok (.iload_n 1, 1) := by decide +kernel
theorem dX5_findPerson_5 : decode cX5_findPerson 5 = .ok (.aload_n 0, 1) := by decide +kernel
theorem dX5_findPerson_6 : decode cX5_findPerson 6 = .ok (.getfield 11, 3) := by decide +kernel
theorem dX5_findPerson_9 : decode cX5_findPerson 9 = .ok (.arraylength, 1) := by decide +kernel
theorem dX5_findPerson_10 : decode cX5_findPerson 10 = .ok (.if_icmp .lt 13, 3) := by decide +kernel
theorem dX5_findPerson_13 : decode cX5_findPerson 13 = .ok (.new 176, 3) := by decide +kernel
theorem dX5_findPerson_16 : decode cX5_findPerson 16 = .ok (.dup, 1) := by decide +kernel
theorem dX5_findPerson_17 : decode cX5_findPerson 17 = .ok (.ldc 213, 2) := by decide +kernel
theorem dX5_findPerson_19 : decode cX5_findPerson 19 = .ok (.invokespecial 180, 3) := by decide +kernel
theorem dX5_findPerson_22 : decode cX5_findPerson 22 = .ok (.athrow, 1) := by decide +kernel
theorem dX5_findPerson_23 : decode cX5_findPerson 23 = .ok (.aload_n 0, 1) := by decide +kernel
theorem dX5_findPerson_24 : decode cX5_findPerson 24 = .ok (.getfield 11, 3) := by decide +kernel
theorem dX5_findPerson_27 : decode cX5_findPerson 27 = .ok (.iload_n 1, 1) := by decide +kernel
theorem dX5_findPerson_28 : decode cX5_findPerson 28 = .ok (.aaload, 1) := by decide +kernel
theorem dX5_findPerson_29 : decode cX5_findPerson 29 = .ok (.astore_n 2, 1) := by decide +kernel
theorem dX5_findPerson_30 : decode cX5_findPerson 30 = .ok (.aload_n 2, 1) := by decide +kernel
theorem dX5_findPerson_31 : decode cX5_findPerson 31 = .ok (.ifnonnull 13, 3) := by decide +kernel
theorem dX5_findPerson_34 : decode cX5_findPerson 34 = .ok (.new 176, 3) := by decide +kernel
theorem dX5_findPerson_37 : decode cX5_findPerson 37 = .ok (.dup, 1) := by decide +kernel
theorem dX5_findPerson_38 : decode cX5_findPerson 38 = .ok (.ldc 213, 2) := by decide +kernel
theorem dX5_findPerson_40 : decode cX5_findPerson 40 = .ok (.invokespecial 180, 3) := by decide +kernel
theorem dX5_findPerson_43 : decode cX5_findPerson 43 = .ok (.athrow, 1) := by decide +kernel
theorem dX5_findPerson_44 : decode cX5_findPerson 44 = .ok (.aload_n 2, 1) := by decide +kernel
theorem dX5_findPerson_45 : decode cX5_findPerson 45 = .ok (.areturn, 1) := by decide +kernel
theorem dX5_findOffence_0 : decode cX5_findOffence 0 = .ok (.iload_n 1, 1) := by decide +kernel
theorem dX5_findOffence_1 : decode cX5_findOffence 1 = .ok (.ifCond .lt 12, 3) := by decide +kernel
theorem dX5_findOffence_4 : decode cX5_findOffence 4 = .ok (.iload_n 1, 1) := by decide +kernel
theorem dX5_findOffence_5 : decode cX5_findOffence 5 = .ok (.aload_n 0, 1) := by decide +kernel
theorem dX5_findOffence_6 : decode cX5_findOffence 6 = .ok (.getfield 215, 3) := by decide +kernel
theorem dX5_findOffence_9 : decode cX5_findOffence 9 = .ok (.arraylength, 1) := by decide +kernel
theorem dX5_findOffence_10 : decode cX5_findOffence 10 = .ok (.if_icmp .lt 13, 3) := by decide +kernel
theorem dX5_findOffence_13 : decode cX5_findOffence 13 = .ok (.new 176, 3) := by decide +kernel
theorem dX5_findOffence_16 : decode cX5_findOffence 16 = .ok (.dup, 1) := by decide +kernel
theorem dX5_findOffence_17 : decode cX5_findOffence 17 = .ok (.ldc 219, 2) := by decide +kernel
theorem dX5_findOffence_19 : decode cX5_findOffence 19 = .ok (.invokespecial 180, 3) := by decide +kernel
theorem dX5_findOffence_22 : decode cX5_findOffence 22 = .ok (.athrow, 1) := by decide +kernel
theorem dX5_findOffence_23 : decode cX5_findOffence 23 = .ok (.aload_n 0, 1) := by decide +kernel
theorem dX5_findOffence_24 : decode cX5_findOffence 24 = .ok (.getfield 215, 3) := by decide +kernel
theorem dX5_findOffence_27 : decode cX5_findOffence 27 = .ok (.iload_n 1, 1) := by decide +kernel
theorem dX5_findOffence_28 : decode cX5_findOffence 28 = .ok (.aaload, 1) := by decide +kernel
theorem dX5_findOffence_29 : decode cX5_findOffence 29 = .ok (.astore_n 2, 1) := by decide +kernel
theorem dX5_findOffence_30 : decode cX5_findOffence 30 = .ok (.aload_n 2, 1) := by decide +kernel
theorem dX5_findOffence_31 : decode cX5_findOffence 31 = .ok (.ifnonnull 13, 3) := by decide +kernel
theorem dX5_findOffence_34 : decode cX5_findOffence 34 = .ok (.new 176, 3) := by decide +kernel
theorem dX5_findOffence_37 : decode cX5_findOffence 37 = .ok (.dup, 1) := by decide +kernel
theorem dX5_findOffence_38 : decode cX5_findOffence 38 = .ok (.ldc 219, 2) := by decide +kernel
theorem dX5_findOffence_40 : decode cX5_findOffence 40 = .ok (.invokespecial 180, 3) := by decide +kernel
theorem dX5_findOffence_43 : decode cX5_findOffence 43 = .ok (.athrow, 1) := by decide +kernel
theorem dX5_findOffence_44 : decode cX5_findOffence 44 = .ok (.aload_n 2, 1) := by decide +kernel
theorem dX5_findOffence_45 : decode cX5_findOffence 45 = .ok (.areturn, 1) := by decide +kernel
theorem dX5_findOrder_0 : decode cX5_findOrder 0 = .ok (.iload_n 1, 1) := by decide +kernel
theorem dX5_findOrder_1 : decode cX5_findOrder 1 = .ok (.ifCond .lt 12, 3) := by decide +kernel
theorem dX5_findOrder_4 : decode cX5_findOrder 4 = .ok (.iload_n 1, 1) := by decide +kernel
theorem dX5_findOrder_5 : decode cX5_findOrder 5 = .ok (.aload_n 0, 1) := by decide +kernel
theorem dX5_findOrder_6 : decode cX5_findOrder 6 = .ok (.getfield 17, 3) := by decide +kernel
theorem dX5_findOrder_9 : decode cX5_findOrder 9 = .ok (.arraylength, 1) := by decide +kernel
theorem dX5_findOrder_10 : decode cX5_findOrder 10 = .ok (.if_icmp .lt 13, 3) := by decide +kernel
theorem dX5_findOrder_13 : decode cX5_findOrder 13 = .ok (.new 176, 3) := by decide +kernel
theorem dX5_findOrder_16 : decode cX5_findOrder 16 = .ok (.dup, 1) := by decide +kernel
theorem dX5_findOrder_17 : decode cX5_findOrder 17 = .ok (.ldc 221, 2) := by decide +kernel
theorem dX5_findOrder_19 : decode cX5_findOrder 19 = .ok (.invokespecial 180, 3) := by decide +kernel
theorem dX5_findOrder_22 : decode cX5_findOrder 22 = .ok (.athrow, 1) := by decide +kernel
theorem dX5_findOrder_23 : decode cX5_findOrder 23 = .ok (.aload_n 0, 1) := by decide +kernel
theorem dX5_findOrder_24 : decode cX5_findOrder 24 = .ok (.getfield 17, 3) := by decide +kernel
theorem dX5_findOrder_27 : decode cX5_findOrder 27 = .ok (.iload_n 1, 1) := by decide +kernel
theorem dX5_findOrder_28 : decode cX5_findOrder 28 = .ok (.aaload, 1) := by decide +kernel
theorem dX5_findOrder_29 : decode cX5_findOrder 29 = .ok (.astore_n 2, 1) := by decide +kernel
theorem dX5_findOrder_30 : decode cX5_findOrder 30 = .ok (.aload_n 2, 1) := by decide +kernel
theorem dX5_findOrder_31 : decode cX5_findOrder 31 = .ok (.ifnonnull 13, 3) := by decide +kernel
theorem dX5_findOrder_34 : decode cX5_findOrder 34 = .ok (.new 176, 3) := by decide +kernel
theorem dX5_findOrder_37 : decode cX5_findOrder 37 = .ok (.dup, 1) := by decide +kernel
theorem dX5_findOrder_38 : decode cX5_findOrder 38 = .ok (.ldc 221, 2) := by decide +kernel
theorem dX5_findOrder_40 : decode cX5_findOrder 40 = .ok (.invokespecial 180, 3) := by decide +kernel
theorem dX5_findOrder_43 : decode cX5_findOrder 43 = .ok (.athrow, 1) := by decide +kernel
theorem dX5_findOrder_44 : decode cX5_findOrder 44 = .ok (.aload_n 2, 1) := by decide +kernel
theorem dX5_findOrder_45 : decode cX5_findOrder 45 = .ok (.areturn, 1) := by decide +kernel
theorem dX5_findTools_0 : decode cX5_findTools 0 = .ok (.iload_n 1, 1) := by decide +kernel
theorem dX5_findTools_1 : decode cX5_findTools 1 = .ok (.ifCond .lt 12, 3) := by decide +kernel
theorem dX5_findTools_4 : decode cX5_findTools 4 = .ok (.iload_n 1, 1) := by decide +kernel
theorem dX5_findTools_5 : decode cX5_findTools 5 = .ok (.aload_n 0, 1) := by decide +kernel
theorem dX5_findTools_6 : decode cX5_findTools 6 = .ok (.getfield 23, 3) := by decide +kernel
theorem dX5_findTools_9 : decode cX5_findTools 9 = .ok (.arraylength, 1) := by decide +kernel
theorem dX5_findTools_10 : decode cX5_findTools 10 = .ok (.if_icmp .lt 13, 3) := by decide +kernel
theorem dX5_findTools_13 : decode cX5_findTools 13 = .ok (.new 176, 3) := by decide +kernel
theorem dX5_findTools_16 : decode cX5_findTools 16 = .ok (.dup, 1) := by decide +kernel
theorem dX5_findTools_17 : decode cX5_findTools 17 = .ok (.ldc 223, 2) := by decide +kernel
theorem dX5_findTools_19 : decode cX5_findTools 19 = .ok (.invokespecial 180, 3) := by decide +kernel
theorem dX5_findTools_22 : decode cX5_findTools 22 = .ok (.athrow, 1) := by decide +kernel
theorem dX5_findTools_23 : decode cX5_findTools 23 = .ok (.aload_n 0, 1) := by decide +kernel
theorem dX5_findTools_24 : decode cX5_findTools 24 = .ok (.getfield 23, 3) := by decide +kernel
theorem dX5_findTools_27 : decode cX5_findTools 27 = .ok (.iload_n 1, 1) := by decide +kernel
theorem dX5_findTools_28 : decode cX5_findTools 28 = .ok (.aaload, 1) := by decide +kernel
theorem dX5_findTools_29 : decode cX5_findTools 29 = .ok (.astore_n 2, 1) := by decide +kernel
theorem dX5_findTools_30 : decode cX5_findTools 30 = .ok (.aload_n 2, 1) := by decide +kernel
theorem dX5_findTools_31 : decode cX5_findTools 31 = .ok (.ifnonnull 13, 3) := by decide +kernel
theorem dX5_findTools_34 : decode cX5_findTools 34 = .ok (.new 176, 3) := by decide +kernel
theorem dX5_findTools_37 : decode cX5_findTools 37 = .ok (.dup, 1) := by decide +kernel
theorem dX5_findTools_38 : decode cX5_findTools 38 = .ok (.ldc 223, 2) := by decide +kernel
theorem dX5_findTools_40 : decode cX5_findTools 40 = .ok (.invokespecial 180, 3) := by decide +kernel
theorem dX5_findTools_43 : decode cX5_findTools 43 = .ok (.athrow, 1) := by decide +kernel
theorem dX5_findTools_44 : decode cX5_findTools 44 = .ok (.aload_n 2, 1) := by decide +kernel
theorem dX5_findTools_45 : decode cX5_findTools 45 = .ok (.areturn, 1) := by decide +kernel
theorem dX5_checkSkill_0 : decode cX5_checkSkill 0 = .ok (.iload_n 0, 1) := by decide +kernel
theorem dX5_checkSkill_1 : decode cX5_checkSkill 1 = .ok (.ifCond .lt 8, 3) := by decide +kernel
theorem dX5_checkSkill_4 : decode cX5_checkSkill 4 = .ok (.iload_n 0, 1) := by decide +kernel
theorem dX5_checkSkill_5 : decode cX5_checkSkill 5 = .ok (.iconst 4, 1) := by decide +kernel
theorem dX5_checkSkill_6 : decode cX5_checkSkill 6 = .ok (.if_icmp .lt 13, 3) := by decide +kernel
theorem dX5_checkSkill_9 : decode cX5_checkSkill 9 = .ok (.new 176, 3) := by decide +kernel
theorem dX5_checkSkill_12 : decode cX5_checkSkill 12 = .ok (.dup, 1) := by decide +kernel
theorem dX5_checkSkill_13 : decode cX5_checkSkill 13 = .ok (.ldc 225, 2) := by decide +kernel
theorem dX5_checkSkill_15 : decode cX5_checkSkill 15 = .ok (.invokespecial 180, 3) := by decide +kernel
theorem dX5_checkSkill_18 : decode cX5_checkSkill 18 = .ok (.athrow, 1) := by decide +kernel
theorem dX5_checkSkill_19 : decode cX5_checkSkill 19 = .ok (.return_, 1) := by decide +kernel
theorem dX5_checkRange_0 : decode cX5_checkRange 0 = .ok (.iload_n 0, 1) := by decide +kernel
theorem dX5_checkRange_1 : decode cX5_checkRange 1 = .ok (.iload_n 1, 1) := by decide +kernel
theorem dX5_checkRange_2 : decode cX5_checkRange 2 = .ok (.if_icmp .lt 8, 3) := by decide +kernel
theorem dX5_checkRange_5 : decode cX5_checkRange 5 = .ok (.iload_n 0, 1) := by decide +kernel
theorem dX5_checkRange_6 : decode cX5_checkRange 6 = .ok (.iload_n 2, 1) := by decide +kernel
theorem dX5_checkRange_7 : decode cX5_checkRange 7 = .ok (.if_icmp .le 13, 3) := by decide +kernel
theorem dX5_checkRange_10 : decode cX5_checkRange 10 = .ok (.new 227, 3) := by decide +kernel
theorem dX5_checkRange_13 : decode cX5_checkRange 13 = .ok (.dup, 1) := by decide +kernel
theorem dX5_checkRange_14 : decode cX5_checkRange 14 = .ok (.ldc 229, 2) := by decide +kernel
theorem dX5_checkRange_16 : decode cX5_checkRange 16 = .ok (.invokespecial 231, 3) := by decide +kernel
theorem dX5_checkRange_19 : decode cX5_checkRange 19 = .ok (.athrow, 1) := by decide +kernel
theorem dX5_checkRange_20 : decode cX5_checkRange 20 = .ok (.return_, 1) := by decide +kernel
theorem dX5_checkIn_0 : decode cX5_checkIn 0 = .ok (.aload_n 0, 1) := by decide +kernel
theorem dX5_checkIn_1 : decode cX5_checkIn 1 = .ok (.getfield 88, 3) := by decide +kernel
theorem dX5_checkIn_4 : decode cX5_checkIn 4 = .ok (.ifCond .eq 13, 3) := by decide +kernel
theorem dX5_checkIn_7 : decode cX5_checkIn 7 = .ok (.new 36, 3) := by decide +kernel
theorem dX5_checkIn_10 : decode cX5_checkIn 10 = .ok (.dup, 1) := by decide +kernel
theorem dX5_checkIn_11 : decode cX5_checkIn 11 = .ok (.ldc 232, 2) := by decide +kernel
theorem dX5_checkIn_13 : decode cX5_checkIn 13 = .ok (.invokespecial 40, 3) := by decide +kernel
theorem dX5_checkIn_16 : decode cX5_checkIn 16 = .ok (.athrow, 1) := by decide +kernel
theorem dX5_checkIn_17 : decode cX5_checkIn 17 = .ok (.return_, 1) := by decide +kernel
end
section
theorem dX6_init_0 : decode cX6_init 0 = .ok (.aload_n 0, 1) := by decide +kernel
theorem dX6_init_1 : decode cX6_init 1 = .ok (.invokespecial 1, 3) := by decide +kernel
theorem dX6_init_4 : decode cX6_init 4 = .ok (.aload_n 0, 1) := by decide +kernel
theorem dX6_init_5 : decode cX6_init 5 = .ok (.bipush 10, 2) := by decide +kernel
theorem dX6_init_7 : decode cX6_init 7 = .ok (.newarray .boolean, 2) := by decide +kernel
theorem dX6_init_9 : decode cX6_init 9 = .ok (.putfield 7, 3) := by decide +kernel
theorem dX6_init_12 : decode cX6_init 12 = .ok (.aload_n 0, 1) := by decide +kernel
theorem dX6_init_13 : decode cX6_init 13 = .ok (.bipush 10, 2) := by decide +kernel
theorem dX6_init_15 : decode cX6_init 15 = .ok (.newarray .int, 2) := by decide +kernel
theorem dX6_init_17 : decode cX6_init 17 = .ok (.putfield 13, 3) := by decide +kernel
theorem dX6_init_20 : decode cX6_init 20 = .ok (.aload_n 0, 1) := by decide +kernel
theorem dX6_init_21 : decode cX6_init 21 = .ok (.bipush 10, 2) := by decide +kernel
theorem dX6_init_23 : decode cX6_init 23 = .ok (.newarray .int, 2) := by decide +kernel
theorem dX6_init_25 : decode cX6_init 25 = .ok (.putfield 17, 3) := by decide +kernel
theorem dX6_init_28 : decode cX6_init 28 = .ok (.aload_n 0, 1) := by decide +kernel
theorem dX6_init_29 : decode cX6_init 29 = .ok (.bipush 10, 2) := by decide +kernel
theorem dX6_init_31 : decode cX6_init 31 = .ok (.newarray .int, 2) := by decide +kernel
theorem dX6_init_33 : decode cX6_init 33 = .ok (.putfield 20, 3) := by decide +kernel
theorem dX6_init_36 : decode cX6_init 36 = .ok (.aload_n 0, 1) := by decide +kernel
theorem dX6_init_37 : decode cX6_init 37 = .ok (.bipush 10, 2) := by decide +kernel
theorem dX6_init_39 : decode cX6_init 39 = .ok (.newarray .int, 2) := by decide +kernel
theorem dX6_init_41 : decode cX6_init 41 = .ok (.putfield 23, 3) := by decide +kernel
theorem dX6_init_44 : decode cX6_init 44 = .ok (.aload_n 0, 1) := by decide +kernel
theorem dX6_init_45 : decode cX6_init 45 = .ok (.bipush 10, 2) := by decide +kernel
theorem dX6_init_47 : decode cX6_init 47 = .ok (.newarray .int, 2) := by decide +kernel
theorem dX6_init_49 : decode cX6_init 49 = .ok (.putfield 26, 3) := by decide +kernel
theorem dX6_init_52 : decode cX6_init 52 = .ok (.aload_n 0, 1) := by decide +kernel
theorem dX6_init_53 : decode cX6_init 53 = .ok (.bipush 10, 2) := by decide +kernel
theorem dX6_init_55 : decode cX6_init 55 = .ok (.newarray .int, 2) := by decide +kernel
theorem dX6_init_57 : decode cX6_init 57 = .ok (.putfield 29, 3) := by decide +kernel
theorem dX6_init_60 : decode cX6_init 60 = .ok (.aload_n 0, 1) := by decide +kernel
theorem dX6_init_61 : decode cX6_init 61 = .ok (.bipush 10, 2) := by decide +kernel
theorem dX6_init_63 : decode cX6_init 63 = .ok (.newarray .int, 2) := by decide +kernel
theorem dX6_init_65 : decode cX6_init 65 = .ok (.putfield 32, 3) := by decide +kernel
theorem dX6_init_68 : decode cX6_init 68 = .ok (.aload_n 0, 1) := by decide +kernel
theorem dX6_init_69 : decode cX6_init 69 = .ok (.bipush 10, 2) := by decide +kernel
theorem dX6_init_71 : decode cX6_init 71 = .ok (.newarray .int, 2) := by decide +kernel
theorem dX6_init_73 : decode cX6_init 73 = .ok (.putfield 35, 3) := by decide +kernel
theorem dX6_init_76 : decode cX6_init 76 = .ok (.aload_n 0, 1) := by decide +kernel
theorem dX6_init_77 : decode cX6_init 77 = .ok (.bipush 10, 2) := by decide +kernel
theorem dX6_init_79 : decode cX6_init 79 = .ok (.newarray .int, 2) := by decide +kernel
theorem dX6_init_81 : decode cX6_init 81 = .ok (.putfield 38, 3) := by decide +kernel
theorem dX6_init_84 : decode cX6_init 84 = .ok (.aload_n 0, 1) := by decide +kernel
theorem dX6_init_85 : decode cX6_init 85 = .ok (.bipush 10, 2) := by decide +kernel
theorem dX6_init_87 : decode cX6_init 87 = .ok (.newarray .int, 2) := by decide +kernel
theorem dX6_init_89 : decode cX6_init 89 = .ok (.putfield 41, 3) := by decide +kernel
theorem dX6_init_92 : decode cX6_init 92 = .ok (.aload_n 0, 1) := by decide +kernel
theorem dX6_init_93 : decode cX6_init 93 = .ok (.bipush 10, 2) := by decide +kernel
theorem dX6_init_95 : decode cX6_init 95 = .ok (.newarray .int, 2) := by decide +kernel
theorem dX6_init_97 : decode cX6_init 97 = .ok (.putfield 44, 3) := by decide +kernel
theorem dX6_init_100 : decode cX6_init 100 = .ok (.aload_n 0, 1) := by decide +kernel
theorem dX6_init_101 : decode cX6_init 101 = .ok (.bipush 40, 2) := by decide +kernel
theorem dX6_init_103 : decode cX6_init 103 = .ok (.newarray .int, 2) := by decide +kernel
theorem dX6_init_105 : decode cX6_init 105 = .ok (.putfield 47, 3) := by decide +kernel
theorem dX6_init_108 : decode cX6_init 108 = .ok (.aload_n 0, 1) := by decide +kernel
theorem dX6_init_109 : decode cX6_init 109 = .ok (.bipush 10, 2) := by decide +kernel
theorem dX6_init_111 : decode cX6_init 111 = .ok (.newarray .int, 2) := by decide +kernel
theorem dX6_init_113 : decode cX6_init 113 = .ok (.putfield 50, 3) := by decide +kernel
theorem dX6_init_116 : decode cX6_init 116 = .ok (.aload_n 0, 1) := by decide +kernel
theorem dX6_init_117 : decode cX6_init 117 = .ok (.bipush 10, 2) := by decide +kernel
theorem dX6_init_119 : decode cX6_init 119 = .ok (.newarray .int, 2) := by decide +kernel
theorem dX6_init_121 : decode cX6_init 121 = .ok (.putfield 53, 3) := by decide +kernel
theorem dX6_init_124 : decode cX6_init 124 = .ok (.aload_n 0, 1) := by decide +kernel
theorem dX6_init_125 : decode cX6_init 125 = .ok (.sipush 500, 3) := by decide +kernel
theorem dX6_init_128 : decode cX6_init 128 = .ok (.newarray .int, 2) := by decide +kernel
theorem dX6_init_130 : decode cX6_init 130 = .ok (.putfield 56, 3) := by decide +kernel
theorem dX6_init_133 : decode cX6_init 133 = .ok (.aload_n 0, 1) := by decide +kernel
theorem dX6_init_134 : decode cX6_init 134 = .ok (.sipush 500, 3) := by decide +kernel
theorem dX6_init_137 : decode cX6_init 137 = .ok (.newarray .int, 2) := by decide +kernel
theorem dX6_init_139 : decode cX6_init 139 = .ok (.putfield 59, 3) := by decide +kernel
theorem dX6_init_142 : decode cX6_init 142 = .ok (.aload_n 0, 1) := by decide +kernel
theorem dX6_init_143 : decode cX6_init 143 = .ok (.sipush 500, 3) := by decide +kernel
theorem dX6_init_146 : decode cX6_init 146 = .ok (.newarray .boolean, 2) := by decide +kernel
theorem dX6_init_148 : decode cX6_init 148 = .ok (.putfield 62, 3) := by decide +kernel
theorem dX6_init_151 : decode cX6_init 151 = .ok (.aload_n 0, 1) := by decide +kernel
theorem dX6_init_152 : decode cX6_init 152 = .ok (.sipush 500, 3) := by decide +kernel
theorem dX6_init_155 : decode cX6_init 155 = .ok (.newarray .boolean, 2) := by decide +kernel
theorem dX6_init_157 : decode cX6_init 157 = .ok (.putfield 65, 3) := by decide +kernel
theorem dX6_init_160 : decode cX6_init 160 = .ok (.aload_n 0, 1) := by decide +kernel
theorem dX6_init_161 : decode cX6_init 161 = .ok (.iconst 3, 1) := by decide +kernel
theorem dX6_init_162 : decode cX6_init 162 = .ok (.newarray .int, 2) := by decide +kernel
theorem dX6_init_164 : decode cX6_init 164 = .ok (.putfield 68, 3) := by decide +kernel
theorem dX6_init_167 : decode cX6_init 167 = .ok (.aload_n 0, 1) := by decide +kernel
theorem dX6_init_168 : decode cX6_init 168 = .ok (.bipush 8, 2) := by decide +kernel
theorem dX6_init_170 : decode cX6_init 170 = .ok (.newarray .int, 2) := by decide +kernel
theorem dX6_init_172 : decode cX6_init 172 = .ok (.putfield 71, 3) := by decide +kernel
theorem dX6_init_175 : decode cX6_init 175 = .ok (.aload_n 0, 1) := by decide +kernel
theorem dX6_init_176 : decode cX6_init 176 = .ok (.bipush 8, 2) := by decide +kernel
theorem dX6_init_178 : decode cX6_init 178 = .ok (.newarray .int, 2) := by decide +kernel
theorem dX6_init_180 : decode cX6_init 180 = .ok (.putfield 74, 3) := by decide +kernel
theorem dX6_init_183 : decode cX6_init 183 = .ok (.aload_n 0, 1) := by decide +kernel
theorem dX6_init_184 : decode cX6_init 184 = .ok (.bipush 8, 2) := by decide +kernel
theorem dX6_init_186 : decode cX6_init 186 = .ok (.newarray .int, 2) := by decide +kernel
theorem dX6_init_188 : decode cX6_init 188 = .ok (.putfield 77, 3) := by decide +kernel
theorem dX6_init_191 : decode cX6_init 191 = .ok (.aload_n 0, 1) := by decide +kernel
theorem dX6_init_192 : decode cX6_init 192 = .ok (.bipush 8, 2) := by decide +kernel
theorem dX6_init_194 : decode cX6_init 194 = .ok (.newarray .int, 2) := by decide +kernel
theorem dX6_init_196 : decode cX6_init 196 = .ok (.putfield 80, 3) := by decide +kernel
theorem dX6_init_199 : decode cX6_init 199 = .ok (.return_, 1) := by decide +kernel
theorem dX6_thrown_0 : decode cX6_thrown 0 = .ok (.aload_n 0, 1) := by decide +kernel
theorem dX6_thrown_1 : decode cX6_thrown 1 = .ok (.getfield 83, 3) := by decide +kernel
theorem dX6_thrown_4 : decode cX6_thrown 4 = .ok (.ireturn, 1) := by decide +kernel
theorem dX6_fails_0 : decode cX6_fails 0 = .ok (.aload_n 0, 1) := by decide +kernel
theorem dX6_fails_1 : decode cX6_fails 1 = .ok (.iload_n 1, 1) := by decide +kernel
theorem dX6_fails_2 : decode cX6_fails 2 = .ok (.putfield 83, 3) := by decide +kernel
theorem dX6_fails_5 : decode cX6_fails 5 = .ok (.iload_n 1, 1) := by decide +kernel
theorem dX6_fails_6 : decode cX6_fails 6 = .ok (.ifCond .le 7, 3) := by decide +kernel
theorem dX6_fails_9 : decode cX6_fails 9 = .ok (.iconst 1, 1) := by decide +kernel
theorem dX6_fails_10 : decode cX6_fails 10 = .ok (.goto 4, 3) := by decide +kernel
theorem dX6_fails_13 : decode cX6_fails 13 = .ok (.iconst 0, 1) := by decide +kernel
theorem dX6_fails_14 : decode cX6_fails 14 = .ok (.ireturn, 1) := by decide +kernel
theorem dX6_lies_0 : decode cX6_lies 0 = .ok (.iload_n 0, 1) := by decide +kernel
theorem dX6_lies_1 : decode cX6_lies 1 = .ok (.iload_n 1, 1) := by decide +kernel
theorem dX6_lies_2 : decode cX6_lies 2 = .ok (.if_icmp .lt 12, 3) := by decide +kernel
theorem dX6_lies_5 : decode cX6_lies 5 = .ok (.iload_n 0, 1) := by decide +kernel
theorem dX6_lies_6 : decode cX6_lies 6 = .ok (.iload_n 2, 1) := by decide +kernel
theorem dX6_lies_7 : decode cX6_lies 7 = .ok (.if_icmp .gt 7, 3) := by decide +kernel
theorem dX6_lies_10 : decode cX6_lies 10 = .ok (.iconst 1, 1) := by decide +kernel
theorem dX6_lies_11 : decode cX6_lies 11 = .ok (.goto 4, 3) := by decide +kernel
theorem dX6_lies_14 : decode cX6_lies 14 = .ok (.iconst 0, 1) := by decide +kernel
theorem dX6_lies_15 : decode cX6_lies 15 = .ok (.ireturn, 1) := by decide +kernel
set_option maxRecDepth 20000 in
theorem ggX6_isPerson_X6_lies : GoodIn wsX6_isPerson wsX6_lies := goodIn_r _ [5] (by decide +kernel) (by decide +kernel)
set_option maxRecDepth 20000 in
theorem gX6_isPerson_X6_lies : GoodIn wsX6_isPerson (va_wsS RX6 90 yX6_lies wsX6_lies) := goodIn_app (goodIn_of _ (by decide +kernel)) ggX6_isPerson_X6_lies
theorem dX6_isPerson_0 : decode cX6_isPerson 0 = .ok (.iload_n 1, 1) := by decide +kernel
theorem dX6_isPerson_1 : decode cX6_isPerson 1 = .ok (.iconst 0, 1) := by decide +kernel
theorem dX6_isPerson_2 : decode cX6_isPerson 2 = .ok (.aload_n 0, 1) := by decide +kernel
theorem dX6_isPerson_3 : decode cX6_isPerson 3 = .ok (.getfield 87, 3) := by decide +kernel
theorem dX6_isPerson_6 : decode cX6_isPerson 6 = .ok (.iconst 1, 1) := by decide +kernel
theorem dX6_isPerson_7 : decode cX6_isPerson 7 = .ok (.isub, 1) := by decide +kernel
theorem dX6_isPerson_8 : decode cX6_isPerson 8 = .ok (.invokestatic 90, 3) := by decide +kernel
theorem dX6_isPerson_11 : decode cX6_isPerson 11 = .ok (.ireturn, 1) := by decide +kernel
set_option maxRecDepth 20000 in
theorem ggX6_isOrder_X6_lies : GoodIn wsX6_isOrder wsX6_lies := goodIn_r _ [5] (by decide +kernel) (by decide +kernel)
set_option maxRecDepth 20000 in
theorem gX6_isOrder_X6_lies : GoodIn wsX6_isOrder (va_wsS RX6 90 yX6_lies wsX6_lies) := goodIn_app (goodIn_of _ (by decide +kernel)) ggX6_isOrder_X6_lies
theorem dX6_isOrder_0 : decode cX6_isOrder 0 = .ok (.iload_n 1, 1) := by decide +kernel
theorem dX6_isOrder_1 : decode cX6_isOrder 1 = .ok (.iconst 0, 1) := by decide +kernel
theorem dX6_isOrder_2 : decode cX6_isOrder 2 = .ok (.aload_n 0, 1) := by decide +kernel
theorem dX6_isOrder_3 : decode cX6_isOrder 3 = .ok (.getfield 94, 3) := by decide +kernel
theorem dX6_isOrder_6 : decode cX6_isOrder 6 = .ok (.iconst 1, 1) := by decide +kernel
theorem dX6_isOrder_7 : decode cX6_isOrder 7 = .ok (.isub, 1) := by decide +kernel
theorem dX6_isOrder_8 : decode cX6_isOrder 8 = .ok (.invokestatic 90, 3) := by decide +kernel
theorem dX6_isOrder_11 : decode cX6_isOrder 11 = .ok (.ireturn, 1) := by decide +kernel
set_option maxRecDepth 20000 in
theorem ggX6_admit_X6_lies : GoodIn wsX6_admit wsX6_lies := goodIn_r _ [11] (by decide +kernel) (by decide +kernel)
set_option maxRecDepth 20000 in
theorem gX6_admit_X6_lies : GoodIn wsX6_admit (va_wsS RX6 90 yX6_lies wsX6_lies) := goodIn_app (goodIn_of _ (by decide +kernel)) ggX6_admit_X6_lies
set_option maxRecDepth 20000 in
theorem ggX6_admit_X6_fails : GoodIn wsX6_admit wsX6_fails := goodIn_r _ [15, 16, 17, 18, 19, 20, 21, 22, 23, 24, 25, 26, 27, 28, 29, 30, 31, 32, 33, 34, 35, 36, 37, 38, 39, 40, 41, 42, 43, 44] (by decide +kernel) (by decide +kernel)
set_option maxRecDepth 20000 in
theorem gX6_admit_X6_fails : GoodIn wsX6_admit (wsV RX6 97 RX6 yX6_fails wsX6_fails) := goodIn_app (goodIn_of _ (by decide +kernel)) ggX6_admit_X6_fails
theorem dX6_admit_0 : decode cX6_admit 0 = .ok (.iload_n 1, 1) := by decide +kernel
theorem dX6_admit_1 : decode cX6_admit 1 = .ok (.iconst 1, 1) := by decide +kernel
theorem dX6_admit_2 : decode cX6_admit 2 = .ok (.sipush 2000, 3) := by decide +kernel
theorem dX6_admit_5 : decode cX6_admit 5 = .ok (.invokestatic 90, 3) := by decide +kernel
theorem dX6_admit_8 : decode cX6_admit 8 = .ok (.ifCond .eq 17, 3) := by decide +kernel
theorem dX6_admit_11 : decode cX6_admit 11 = .ok (.iload_n 2, 1) := by decide +kernel
theorem dX6_admit_12 : decode cX6_admit 12 = .ok (.iconst 0, 1) := by decide +kernel
theorem dX6_admit_13 : decode cX6_admit 13 = .ok (.bipush 15, 2) := by decide +kernel
theorem dX6_admit_15 : decode cX6_admit 15 = .ok (.invokestatic 90, 3) := by decide +kernel
theorem dX6_admit_18 : decode cX6_admit 18 = .ok (.ifCond .eq 7, 3) := by decide +kernel
theorem dX6_admit_21 : decode cX6_admit 21 = .ok (.iconst 1, 1) := by decide +kernel
theorem dX6_admit_22 : decode cX6_admit 22 = .ok (.goto 4, 3) := by decide +kernel
theorem dX6_admit_25 : decode cX6_admit 25 = .ok (.iconst 0, 1) := by decide +kernel
theorem dX6_admit_26 : decode cX6_admit 26 = .ok (.istore_n 3, 1) := by decide +kernel
theorem dX6_admit_27 : decode cX6_admit 27 = .ok (.aload_n 0, 1) := by decide +kernel
theorem dX6_admit_28 : decode cX6_admit 28 = .ok (.iload_n 3, 1) := by decide +kernel
theorem dX6_admit_29 : decode cX6_admit 29 = .ok (.ifCond .ne 7, 3) := by decide +kernel
theorem dX6_admit_32 : decode cX6_admit 32 = .ok (.iconst 1, 1) := by decide +kernel
theorem dX6_admit_33 : decode cX6_admit 33 = .ok (.goto 17, 3) := by decide +kernel
theorem dX6_admit_36 : decode cX6_admit 36 = .ok (.aload_n 0, 1) := by decide +kernel
theorem dX6_admit_37 : decode cX6_admit 37 = .ok (.getfield 87, 3) := by decide +kernel
theorem dX6_admit_40 : decode cX6_admit 40 = .ok (.bipush 10, 2) := by decide +kernel
theorem dX6_admit_42 : decode cX6_admit 42 = .ok (.if_icmp .ne 7, 3) := by decide +kernel
theorem dX6_admit_45 : decode cX6_admit 45 = .ok (.iconst 2, 1) := by decide +kernel
theorem dX6_admit_46 : decode cX6_admit 46 = .ok (.goto 4, 3) := by decide +kernel
theorem dX6_admit_49 : decode cX6_admit 49 = .ok (.iconst 0, 1) := by decide +kernel
theorem dX6_admit_50 : decode cX6_admit 50 = .ok (.invokevirtual 97, 3) := by decide +kernel
theorem dX6_admit_53 : decode cX6_admit 53 = .ok (.ifCond .eq 5, 3) := by decide +kernel
theorem dX6_admit_56 : decode cX6_admit 56 = .ok (.iconst 0, 1) := by decide +kernel
theorem dX6_admit_57 : decode cX6_admit 57 = .ok (.ireturn, 1) := by decide +kernel
theorem dX6_admit_58 : decode cX6_admit 58 = .ok (.aload_n 0, 1) := by decide +kernel
theorem dX6_admit_59 : decode cX6_admit 59 = .ok (.getfield 13, 3) := by decide +kernel
theorem dX6_admit_62 : decode cX6_admit 62 = .ok (.aload_n 0, 1) := by decide +kernel
theorem dX6_admit_63 : decode cX6_admit 63 = .ok (.getfield 87, 3) := by decide +kernel
theorem dX6_admit_66 : decode cX6_admit 66 = .ok (.aload_n 0, 1) := by decide +kernel
theorem dX6_admit_67 : decode cX6_admit 67 = .ok (.getfield 101, 3) := by decide +kernel
theorem dX6_admit_70 : decode cX6_admit 70 = .ok (.iastore, 1) := by decide +kernel
theorem dX6_admit_71 : decode cX6_admit 71 = .ok (.aload_n 0, 1) := by decide +kernel
theorem dX6_admit_72 : decode cX6_admit 72 = .ok (.getfield 17, 3) := by decide +kernel
theorem dX6_admit_75 : decode cX6_admit 75 = .ok (.aload_n 0, 1) := by decide +kernel
theorem dX6_admit_76 : decode cX6_admit 76 = .ok (.getfield 87, 3) := by decide +kernel
theorem dX6_admit_79 : decode cX6_admit 79 = .ok (.iload_n 1, 1) := by decide +kernel
theorem dX6_admit_80 : decode cX6_admit 80 = .ok (.iastore, 1) := by decide +kernel
theorem dX6_admit_81 : decode cX6_admit 81 = .ok (.aload_n 0, 1) := by decide +kernel
theorem dX6_admit_82 : decode cX6_admit 82 = .ok (.getfield 20, 3) := by decide +kernel
theorem dX6_admit_85 : decode cX6_admit 85 = .ok (.aload_n 0, 1) := by decide +kernel
theorem dX6_admit_86 : decode cX6_admit 86 = .ok (.getfield 87, 3) := by decide +kernel
theorem dX6_admit_89 : decode cX6_admit 89 = .ok (.iload_n 2, 1) := by decide +kernel
theorem dX6_admit_90 : decode cX6_admit 90 = .ok (.iastore, 1) := by decide +kernel
theorem dX6_admit_91 : decode cX6_admit 91 = .ok (.aload_n 0, 1) := by decide +kernel
theorem dX6_admit_92 : decode cX6_admit 92 = .ok (.getfield 23, 3) := by decide +kernel
theorem dX6_admit_95 : decode cX6_admit 95 = .ok (.aload_n 0, 1) := by decide +kernel
theorem dX6_admit_96 : decode cX6_admit 96 = .ok (.getfield 87, 3) := by decide +kernel
theorem dX6_admit_99 : decode cX6_admit 99 = .ok (.iconst 1, 1) := by decide +kernel
theorem dX6_admit_100 : decode cX6_admit 100 = .ok (.iastore, 1) := by decide +kernel
theorem dX6_admit_101 : decode cX6_admit 101 = .ok (.aload_n 0, 1) := by decide +kernel
theorem dX6_admit_102 : decode cX6_admit 102 = .ok (.getfield 38, 3) := by decide +kernel
theorem dX6_admit_105 : decode cX6_admit 105 = .ok (.aload_n 0, 1) := by decide +kernel
theorem dX6_admit_106 : decode cX6_admit 106 = .ok (.getfield 87, 3) := by decide +kernel
theorem dX6_admit_109 : decode cX6_admit 109 = .ok (.iconst (-1), 1) := by decide +kernel
theorem dX6_admit_110 : decode cX6_admit 110 = .ok (.iastore, 1) := by decide +kernel
theorem dX6_admit_111 : decode cX6_admit 111 = .ok (.aload_n 0, 1) := by decide +kernel
theorem dX6_admit_112 : decode cX6_admit 112 = .ok (.dup, 1) := by decide +kernel
theorem dX6_admit_113 : decode cX6_admit 113 = .ok (.getfield 87, 3) := by decide +kernel
theorem dX6_admit_116 : decode cX6_admit 116 = .ok (.iconst 1, 1) := by decide +kernel
theorem dX6_admit_117 : decode cX6_admit 117 = .ok (.iadd, 1) := by decide +kernel
theorem dX6_admit_118 : decode cX6_admit 118 = .ok (.putfield 87, 3) := by decide +kernel
theorem dX6_admit_121 : decode cX6_admit 121 = .ok (.aload_n 0, 1) := by decide +kernel
theorem dX6_admit_122 : decode cX6_admit 122 = .ok (.getfield 87, 3) := by decide +kernel
theorem dX6_admit_125 : decode cX6_admit 125 = .ok (.iconst 1, 1) := by decide +kernel
theorem dX6_admit_126 : decode cX6_admit 126 = .ok (.isub, 1) := by decide +kernel
theorem dX6_admit_127 : decode cX6_admit 127 = .ok (.ireturn, 1) := by decide +kernel
theorem dX6_gains_0 : decode cX6_gains 0 = .ok (.aload_n 0, 1) := by decide +kernel
theorem dX6_gains_1 : decode cX6_gains 1 = .ok (.getfield 26, 3) := by decide +kernel
theorem dX6_gains_4 : decode cX6_gains 4 = .ok (.iload_n 1, 1) := by decide +kernel
theorem dX6_gains_5 : decode cX6_gains 5 = .ok (.iaload, 1) := by decide +kernel
theorem dX6_gains_6 : decode cX6_gains 6 = .ok (.iconst 5, 1) := by decide +kernel
theorem dX6_gains_7 : decode cX6_gains 7 = .ok (.idiv, 1) := by decide +kernel
theorem dX6_gains_8 : decode cX6_gains 8 = .ok (.aload_n 0, 1) := by decide +kernel
theorem dX6_gains_9 : decode cX6_gains 9 = .ok (.getfield 29, 3) := by decide +kernel
theorem dX6_gains_12 : decode cX6_gains 12 = .ok (.iload_n 1, 1) := by decide +kernel
theorem dX6_gains_13 : decode cX6_gains 13 = .ok (.iaload, 1) := by decide +kernel
theorem dX6_gains_14 : decode cX6_gains 14 = .ok (.iadd, 1) := by decide +kernel
theorem dX6_gains_15 : decode cX6_gains 15 = .ok (.ireturn, 1) := by decide +kernel
theorem dX6_loses_0 : decode cX6_loses 0 = .ok (.iconst 0, 1) := by decide +kernel
theorem dX6_loses_1 : decode cX6_loses 1 = .ok (.istore_n 2, 1) := by decide +kernel
theorem dX6_loses_2 : decode cX6_loses 2 = .ok (.bipush 50, 2) := by decide +kernel
theorem dX6_loses_4 : decode cX6_loses 4 = .ok (.iload_n 1, 1) := by decide +kernel
theorem dX6_loses_5 : decode cX6_loses 5 = .ok (.imul, 1) := by decide +kernel
theorem dX6_loses_6 : decode cX6_loses 6 = .ok (.istore_n 3, 1) := by decide +kernel
theorem dX6_loses_7 : decode cX6_loses 7 = .ok (.iload_n 3, 1) := by decide +kernel
theorem dX6_loses_8 : decode cX6_loses 8 = .ok (.bipush 50, 2) := by decide +kernel
theorem dX6_loses_10 : decode cX6_loses 10 = .ok (.iload_n 1, 1) := by decide +kernel
theorem dX6_loses_11 : decode cX6_loses 11 = .ok (.imul, 1) := by decide +kernel
theorem dX6_loses_12 : decode cX6_loses 12 = .ok (.aload_n 0, 1) := by decide +kernel
theorem dX6_loses_13 : decode cX6_loses 13 = .ok (.getfield 35, 3) := by decide +kernel
theorem dX6_loses_16 : decode cX6_loses 16 = .ok (.iload_n 1, 1) := by decide +kernel
theorem dX6_loses_17 : decode cX6_loses 17 = .ok (.iaload, 1) := by decide +kernel
theorem dX6_loses_18 : decode cX6_loses 18 = .ok (.iadd, 1) := by decide +kernel
theorem dX6_loses_19 : decode cX6_loses 19 = .ok (.if_icmp .ge 31, 3) := by decide +kernel
theorem dX6_loses_22 : decode cX6_loses 22 = .ok (.iload_n 2, 1) := by decide +kernel
theorem dX6_loses_23 : decode cX6_loses 23 = .ok (.aload_n 0, 1) := by decide +kernel
theorem dX6_loses_24 : decode cX6_loses 24 = .ok (.getfield 65, 3) := by decide +kernel
theorem dX6_loses_27 : decode cX6_loses 27 = .ok (.iload_n 3, 1) := by decide +kernel
theorem dX6_loses_28 : decode cX6_loses 28 = .ok (.baload, 1) := by decide +kernel
theorem dX6_loses_29 : decode cX6_loses 29 = .ok (.ifCond .eq 7, 3) := by decide +kernel
theorem dX6_loses_32 : decode cX6_loses 32 = .ok (.iconst 0, 1) := by decide +kernel
theorem dX6_loses_33 : decode cX6_loses 33 = .ok (.goto 9, 3) := by decide +kernel
theorem dX6_loses_36 : decode cX6_loses 36 = .ok (.aload_n 0, 1) := by decide +kernel
theorem dX6_loses_37 : decode cX6_loses 37 = .ok (.getfield 56, 3) := by decide +kernel
theorem dX6_loses_40 : decode cX6_loses 40 = .ok (.iload_n 3, 1) := by decide +kernel
theorem dX6_loses_41 : decode cX6_loses 41 = .ok (.iaload, 1) := by decide +kernel
theorem dX6_loses_42 : decode cX6_loses 42 = .ok (.iadd, 1) := by decide +kernel
theorem dX6_loses_43 : decode cX6_loses 43 = .ok (.istore_n 2, 1) := by decide +kernel
theorem dX6_loses_44 : decode cX6_loses 44 = .ok (.iinc 3 1, 3) := by decide +kernel
theorem dX6_loses_47 : decode cX6_loses 47 = .ok (.goto (-40), 3) := by decide +kernel
theorem dX6_loses_50 : decode cX6_loses 50 = .ok (.iload_n 2, 1) := by decide +kernel
theorem dX6_loses_51 : decode cX6_loses 51 = .ok (.ireturn, 1) := by decide +kernel
set_option maxRecDepth 20000 in
theorem ggX6_releaseOf_X6_gains : GoodIn wsX6_releaseOf wsX6_gains := goodIn_r _ [9, 10, 11, 19, 20, 21, 22, 23, 24, 25, 26, 27, 28, 29, 30, 31, 32, 33, 34, 35, 36, 37, 38, 39, 40, 41, 42, 43, 44, 45, 46] (by decide +kernel) (by decide +kernel)
set_option maxRecDepth 20000 in
theorem gX6_releaseOf_X6_gains : GoodIn wsX6_releaseOf (wsV RX6 104 RX6 yX6_gains wsX6_gains) := goodIn_app (goodIn_of _ (by decide +kernel)) ggX6_releaseOf_X6_gains
set_option maxRecDepth 20000 in
theorem ggX6_releaseOf_X6_loses : GoodIn wsX6_releaseOf wsX6_loses := goodIn_r _ [15, 16, 17, 18, 19, 20, 21, 22, 23, 24, 25, 26, 27, 28, 29, 30, 31, 32, 33, 34, 35, 36, 37, 38, 39, 40, 41, 42, 43, 44, 45, 46] (by decide +kernel) (by decide +kernel)
set_option maxRecDepth 20000 in
theorem gX6_releaseOf_X6_loses : GoodIn wsX6_releaseOf (wsV RX6 108 RX6 yX6_loses wsX6_loses) := goodIn_app (goodIn_of _ (by decide +kernel)) ggX6_releaseOf_X6_loses
theorem dX6_releaseOf_0 : decode cX6_releaseOf 0 = .ok (.aload_n 0, 1) := by decide +kernel
theorem dX6_releaseOf_1 : decode cX6_releaseOf 1 = .ok (.getfield 17, 3) := by decide +kernel
theorem dX6_releaseOf_4 : decode cX6_releaseOf 4 = .ok (.iload_n 1, 1) := by decide +kernel
theorem dX6_releaseOf_5 : decode cX6_releaseOf 5 = .ok (.iaload, 1) := by decide +kernel
theorem dX6_releaseOf_6 : decode cX6_releaseOf 6 = .ok (.iconst 4, 1) := by decide +kernel
theorem dX6_releaseOf_7 : decode cX6_releaseOf 7 = .ok (.idiv, 1) := by decide +kernel
theorem dX6_releaseOf_8 : decode cX6_releaseOf 8 = .ok (.istore_n 2, 1) := by decide +kernel
theorem dX6_releaseOf_9 : decode cX6_releaseOf 9 = .ok (.aload_n 0, 1) := by decide +kernel
theorem dX6_releaseOf_10 : decode cX6_releaseOf 10 = .ok (.iload_n 1, 1) := by decide +kernel
theorem dX6_releaseOf_11 : decode cX6_releaseOf 11 = .ok (.invokevirtual 104, 3) := by decide +kernel
theorem dX6_releaseOf_14 : decode cX6_releaseOf 14 = .ok (.iload_n 2, 1) := by decide +kernel
theorem dX6_releaseOf_15 : decode cX6_releaseOf 15 = .ok (.if_icmp .ge 11, 3) := by decide +kernel
theorem dX6_releaseOf_18 : decode cX6_releaseOf 18 = .ok (.aload_n 0, 1) := by decide +kernel
theorem dX6_releaseOf_19 : decode cX6_releaseOf 19 = .ok (.iload_n 1, 1) := by decide +kernel
theorem dX6_releaseOf_20 : decode cX6_releaseOf 20 = .ok (.invokevirtual 104, 3) := by decide +kernel
theorem dX6_releaseOf_23 : decode cX6_releaseOf 23 = .ok (.goto 4, 3) := by decide +kernel
theorem dX6_releaseOf_26 : decode cX6_releaseOf 26 = .ok (.iload_n 2, 1) := by decide +kernel
theorem dX6_releaseOf_27 : decode cX6_releaseOf 27 = .ok (.istore_n 3, 1) := by decide +kernel
theorem dX6_releaseOf_28 : decode cX6_releaseOf 28 = .ok (.aload_n 0, 1) := by decide +kernel
theorem dX6_releaseOf_29 : decode cX6_releaseOf 29 = .ok (.getfield 7, 3) := by decide +kernel
theorem dX6_releaseOf_32 : decode cX6_releaseOf 32 = .ok (.iload_n 1, 1) := by decide +kernel
theorem dX6_releaseOf_33 : decode cX6_releaseOf 33 = .ok (.baload, 1) := by decide +kernel
theorem dX6_releaseOf_34 : decode cX6_releaseOf 34 = .ok (.ifCond .eq 12, 3) := by decide +kernel
theorem dX6_releaseOf_37 : decode cX6_releaseOf 37 = .ok (.aload_n 0, 1) := by decide +kernel
theorem dX6_releaseOf_38 : decode cX6_releaseOf 38 = .ok (.getfield 41, 3) := by decide +kernel
theorem dX6_releaseOf_41 : decode cX6_releaseOf 41 = .ok (.iload_n 1, 1) := by decide +kernel
theorem dX6_releaseOf_42 : decode cX6_releaseOf 42 = .ok (.iaload, 1) := by decide +kernel
theorem dX6_releaseOf_43 : decode cX6_releaseOf 43 = .ok (.goto 24, 3) := by decide +kernel
theorem dX6_releaseOf_46 : decode cX6_releaseOf 46 = .ok (.aload_n 0, 1) := by decide +kernel
theorem dX6_releaseOf_47 : decode cX6_releaseOf 47 = .ok (.getfield 13, 3) := by decide +kernel
theorem dX6_releaseOf_50 : decode cX6_releaseOf 50 = .ok (.iload_n 1, 1) := by decide +kernel
theorem dX6_releaseOf_51 : decode cX6_releaseOf 51 = .ok (.iaload, 1) := by decide +kernel
theorem dX6_releaseOf_52 : decode cX6_releaseOf 52 = .ok (.aload_n 0, 1) := by decide +kernel
theorem dX6_releaseOf_53 : decode cX6_releaseOf 53 = .ok (.getfield 17, 3) := by decide +kernel
theorem dX6_releaseOf_56 : decode cX6_releaseOf 56 = .ok (.iload_n 1, 1) := by decide +kernel
theorem dX6_releaseOf_57 : decode cX6_releaseOf 57 = .ok (.iaload, 1) := by decide +kernel
theorem dX6_releaseOf_58 : decode cX6_releaseOf 58 = .ok (.iadd, 1) := by decide +kernel
theorem dX6_releaseOf_59 : decode cX6_releaseOf 59 = .ok (.iload_n 3, 1) := by decide +kernel
theorem dX6_releaseOf_60 : decode cX6_releaseOf 60 = .ok (.isub, 1) := by decide +kernel
theorem dX6_releaseOf_61 : decode cX6_releaseOf 61 = .ok (.aload_n 0, 1) := by decide +kernel
theorem dX6_releaseOf_62 : decode cX6_releaseOf 62 = .ok (.iload_n 1, 1) := by decide +kernel
theorem dX6_releaseOf_63 : decode cX6_releaseOf 63 = .ok (.invokevirtual 108, 3) := by decide +kernel
theorem dX6_releaseOf_66 : decode cX6_releaseOf 66 = .ok (.iadd, 1) := by decide +kernel
theorem dX6_releaseOf_67 : decode cX6_releaseOf 67 = .ok (.ireturn, 1) := by decide +kernel
theorem dX6_raises_0 : decode cX6_raises 0 = .ok (.aload_n 0, 1) := by decide +kernel
theorem dX6_raises_1 : decode cX6_raises 1 = .ok (.getfield 23, 3) := by decide +kernel
theorem dX6_raises_4 : decode cX6_raises 4 = .ok (.iload_n 1, 1) := by decide +kernel
theorem dX6_raises_5 : decode cX6_raises 5 = .ok (.dup2, 1) := by decide +kernel
theorem dX6_raises_6 : decode cX6_raises 6 = .ok (.iaload, 1) := by decide +kernel
theorem dX6_raises_7 : decode cX6_raises 7 = .ok (.aload_n 0, 1) := by decide +kernel
theorem dX6_raises_8 : decode cX6_raises 8 = .ok (.getfield 23, 3) := by decide +kernel
theorem dX6_raises_11 : decode cX6_raises 11 = .ok (.iload_n 1, 1) := by decide +kernel
theorem dX6_raises_12 : decode cX6_raises 12 = .ok (.iaload, 1) := by decide +kernel
theorem dX6_raises_13 : decode cX6_raises 13 = .ok (.iconst 2, 1) := by decide +kernel
theorem dX6_raises_14 : decode cX6_raises 14 = .ok (.if_icmp .ge 7, 3) := by decide +kernel
theorem dX6_raises_17 : decode cX6_raises 17 = .ok (.iconst 1, 1) := by decide +kernel
theorem dX6_raises_18 : decode cX6_raises 18 = .ok (.goto 4, 3) := by decide +kernel
theorem dX6_raises_21 : decode cX6_raises 21 = .ok (.iconst 0, 1) := by decide +kernel
theorem dX6_raises_22 : decode cX6_raises 22 = .ok (.iadd, 1) := by decide +kernel
theorem dX6_raises_23 : decode cX6_raises 23 = .ok (.iastore, 1) := by decide +kernel
theorem dX6_raises_24 : decode cX6_raises 24 = .ok (.return_, 1) := by decide +kernel
set_option maxRecDepth 20000 in
theorem ggX6_course_X6_isPerson : GoodIn wsX6_course wsX6_isPerson := goodIn_r _ [9, 10, 11, 12, 8, 13, 43, 44, 45, 46, 47, 48, 49, 50, 51, 52, 53, 54, 55, 56, 57, 58, 59, 60, 61, 62, 63, 64, 65, 66, 67, 68, 69, 70] (by decide +kernel) (by decide +kernel)
set_option maxRecDepth 20000 in
theorem gX6_course_X6_isPerson : GoodIn wsX6_course (wsV RX6 111 RX6 yX6_isPerson wsX6_isPerson) := goodIn_app (goodIn_of _ (by decide +kernel)) ggX6_course_X6_isPerson
set_option maxRecDepth 20000 in
theorem ggX6_course_X6_lies : GoodIn wsX6_course wsX6_lies := goodIn_r _ [13] (by decide +kernel) (by decide +kernel)
set_option maxRecDepth 20000 in
theorem gX6_course_X6_lies : GoodIn wsX6_course (va_wsS RX6 90 yX6_lies wsX6_lies) := goodIn_app (goodIn_of _ (by decide +kernel)) ggX6_course_X6_lies
set_option maxRecDepth 20000 in
theorem ggX6_course_X6_fails : GoodIn wsX6_course wsX6_fails := goodIn_r _ [17, 18, 43, 44, 45, 46, 47, 48, 49, 50, 51, 52, 53, 54, 55, 56, 57, 58, 59, 60, 61, 62, 63, 64, 65, 66, 67, 68, 69, 70] (by decide +kernel) (by decide +kernel)
set_option maxRecDepth 20000 in
theorem gX6_course_X6_fails : GoodIn wsX6_course (wsV RX6 97 RX6 yX6_fails wsX6_fails) := goodIn_app (goodIn_of _ (by decide +kernel)) ggX6_course_X6_fails
set_option maxRecDepth 20000 in
theorem ggX6_course_X6_raises : GoodIn wsX6_course wsX6_raises := goodIn_r _ [22, 23, 43, 44, 45, 46, 47, 48, 49, 50, 51, 52, 53, 54, 55, 56, 57, 58, 59, 60, 61, 62, 63, 64, 65, 66, 67, 68, 69, 70] (by decide +kernel) (by decide +kernel)
set_option maxRecDepth 20000 in
theorem gX6_course_X6_raises : GoodIn wsX6_course (wsV RX6 114 RX6 yX6_raises wsX6_raises) := goodIn_app (goodIn_of _ (by decide +kernel)) ggX6_course_X6_raises
set_option maxRecDepth 20000 in
theorem ggX6_course_X6_releaseOf : GoodIn wsX6_course wsX6_releaseOf := goodIn_r _ [27, 28, 1, 29, 30, 31, 32, 33, 8, 34, 35, 4, 36, 37, 38, 39, 40, 41, 42, 43, 44, 45, 46, 47, 48, 49, 50, 51, 52, 53, 54, 55, 56, 57, 58, 59, 60, 61, 62, 63, 64, 65, 66, 67, 68, 69, 70] (by decide +kernel) (by decide +kernel)
set_option maxRecDepth 20000 in
theorem gX6_course_X6_releaseOf : GoodIn wsX6_course (wsV RX6 118 RX6 yX6_releaseOf wsX6_releaseOf) := goodIn_app (goodIn_of _ (by decide +kernel)) ggX6_course_X6_releaseOf
theorem dX6_course_0 : decode cX6_course 0 = .ok (.aload_n 0, 1) := by decide +kernel
theorem dX6_course_1 : decode cX6_course 1 = .ok (.iload_n 1, 1) := by decide +kernel
theorem dX6_course_2 : decode cX6_course 2 = .ok (.invokevirtual 111, 3) := by decide +kernel
theorem dX6_course_5 : decode cX6_course 5 = .ok (.ifCond .eq 16, 3) := by decide +kernel
theorem dX6_course_8 : decode cX6_course 8 = .ok (.iload_n 2, 1) := by decide +kernel
theorem dX6_course_9 : decode cX6_course 9 = .ok (.iconst 0, 1) := by decide +kernel
theorem dX6_course_10 : decode cX6_course 10 = .ok (.iconst 3, 1) := by decide +kernel
theorem dX6_course_11 : decode cX6_course 11 = .ok (.invokestatic 90, 3) := by decide +kernel
theorem dX6_course_14 : decode cX6_course 14 = .ok (.ifCond .eq 7, 3) := by decide +kernel
theorem dX6_course_17 : decode cX6_course 17 = .ok (.iconst 1, 1) := by decide +kernel
theorem dX6_course_18 : decode cX6_course 18 = .ok (.goto 4, 3) := by decide +kernel
theorem dX6_course_21 : decode cX6_course 21 = .ok (.iconst 0, 1) := by decide +kernel
theorem dX6_course_22 : decode cX6_course 22 = .ok (.istore 4, 2) := by decide +kernel
theorem dX6_course_24 : decode cX6_course 24 = .ok (.aload_n 0, 1) := by decide +kernel
theorem dX6_course_25 : decode cX6_course 25 = .ok (.iload 4, 2) := by decide +kernel
theorem dX6_course_27 : decode cX6_course 27 = .ok (.ifCond .ne 7, 3) := by decide +kernel
theorem dX6_course_30 : decode cX6_course 30 = .ok (.iconst 1, 1) := by decide +kernel
theorem dX6_course_31 : decode cX6_course 31 = .ok (.goto 42, 3) := by decide +kernel
theorem dX6_course_34 : decode cX6_course 34 = .ok (.iload_n 3, 1) := by decide +kernel
theorem dX6_course_35 : decode cX6_course 35 = .ok (.iconst 0, 1) := by decide +kernel
theorem dX6_course_36 : decode cX6_course 36 = .ok (.bipush 100, 2) := by decide +kernel
theorem dX6_course_38 : decode cX6_course 38 = .ok (.invokestatic 90, 3) := by decide +kernel
theorem dX6_course_41 : decode cX6_course 41 = .ok (.ifCond .ne 7, 3) := by decide +kernel
theorem dX6_course_44 : decode cX6_course 44 = .ok (.iconst 2, 1) := by decide +kernel
theorem dX6_course_45 : decode cX6_course 45 = .ok (.goto 28, 3) := by decide +kernel
theorem dX6_course_48 : decode cX6_course 48 = .ok (.aload_n 0, 1) := by decide +kernel
theorem dX6_course_49 : decode cX6_course 49 = .ok (.getfield 7, 3) := by decide +kernel
theorem dX6_course_52 : decode cX6_course 52 = .ok (.iload_n 1, 1) := by decide +kernel
theorem dX6_course_53 : decode cX6_course 53 = .ok (.baload, 1) := by decide +kernel
theorem dX6_course_54 : decode cX6_course 54 = .ok (.ifCond .ne 14, 3) := by decide +kernel
theorem dX6_course_57 : decode cX6_course 57 = .ok (.aload_n 0, 1) := by decide +kernel
theorem dX6_course_58 : decode cX6_course 58 = .ok (.getfield 32, 3) := by decide +kernel
theorem dX6_course_61 : decode cX6_course 61 = .ok (.iload_n 1, 1) := by decide +kernel
theorem dX6_course_62 : decode cX6_course 62 = .ok (.iaload, 1) := by decide +kernel
theorem dX6_course_63 : decode cX6_course 63 = .ok (.bipush 50, 2) := by decide +kernel
theorem dX6_course_65 : decode cX6_course 65 = .ok (.if_icmp .ne 7, 3) := by decide +kernel
theorem dX6_course_68 : decode cX6_course 68 = .ok (.iconst 3, 1) := by decide +kernel
theorem dX6_course_69 : decode cX6_course 69 = .ok (.goto 4, 3) := by decide +kernel
theorem dX6_course_72 : decode cX6_course 72 = .ok (.iconst 0, 1) := by decide +kernel
theorem dX6_course_73 : decode cX6_course 73 = .ok (.invokevirtual 97, 3) := by decide +kernel
theorem dX6_course_76 : decode cX6_course 76 = .ok (.ifCond .eq 5, 3) := by decide +kernel
theorem dX6_course_79 : decode cX6_course 79 = .ok (.iconst 0, 1) := by decide +kernel
theorem dX6_course_80 : decode cX6_course 80 = .ok (.ireturn, 1) := by decide +kernel
theorem dX6_course_81 : decode cX6_course 81 = .ok (.aload_n 0, 1) := by decide +kernel
theorem dX6_course_82 : decode cX6_course 82 = .ok (.getfield 20, 3) := by decide +kernel
theorem dX6_course_85 : decode cX6_course 85 = .ok (.iload_n 1, 1) := by decide +kernel
theorem dX6_course_86 : decode cX6_course 86 = .ok (.dup2, 1) := by decide +kernel
theorem dX6_course_87 : decode cX6_course 87 = .ok (.iaload, 1) := by decide +kernel
theorem dX6_course_88 : decode cX6_course 88 = .ok (.iconst 1, 1) := by decide +kernel
theorem dX6_course_89 : decode cX6_course 89 = .ok (.iload_n 2, 1) := by decide +kernel
theorem dX6_course_90 : decode cX6_course 90 = .ok (.ishl, 1) := by decide +kernel
theorem dX6_course_91 : decode cX6_course 91 = .ok (.ior, 1) := by decide +kernel
theorem dX6_course_92 : decode cX6_course 92 = .ok (.iastore, 1) := by decide +kernel
theorem dX6_course_93 : decode cX6_course 93 = .ok (.aload_n 0, 1) := by decide +kernel
theorem dX6_course_94 : decode cX6_course 94 = .ok (.getfield 29, 3) := by decide +kernel
theorem dX6_course_97 : decode cX6_course 97 = .ok (.iload_n 1, 1) := by decide +kernel
theorem dX6_course_98 : decode cX6_course 98 = .ok (.dup2, 1) := by decide +kernel
theorem dX6_course_99 : decode cX6_course 99 = .ok (.iaload, 1) := by decide +kernel
theorem dX6_course_100 : decode cX6_course 100 = .ok (.iload_n 3, 1) := by decide +kernel
theorem dX6_course_101 : decode cX6_course 101 = .ok (.iadd, 1) := by decide +kernel
theorem dX6_course_102 : decode cX6_course 102 = .ok (.iastore, 1) := by decide +kernel
theorem dX6_course_103 : decode cX6_course 103 = .ok (.aload_n 0, 1) := by decide +kernel
theorem dX6_course_104 : decode cX6_course 104 = .ok (.getfield 32, 3) := by decide +kernel
theorem dX6_course_107 : decode cX6_course 107 = .ok (.iload_n 1, 1) := by decide +kernel
theorem dX6_course_108 : decode cX6_course 108 = .ok (.dup2, 1) := by decide +kernel
theorem dX6_course_109 : decode cX6_course 109 = .ok (.iaload, 1) := by decide +kernel
theorem dX6_course_110 : decode cX6_course 110 = .ok (.iconst 1, 1) := by decide +kernel
theorem dX6_course_111 : decode cX6_course 111 = .ok (.iadd, 1) := by decide +kernel
theorem dX6_course_112 : decode cX6_course 112 = .ok (.iastore, 1) := by decide +kernel
theorem dX6_course_113 : decode cX6_course 113 = .ok (.aload_n 0, 1) := by decide +kernel
theorem dX6_course_114 : decode cX6_course 114 = .ok (.iload_n 1, 1) := by decide +kernel
theorem dX6_course_115 : decode cX6_course 115 = .ok (.invokevirtual 114, 3) := by decide +kernel
theorem dX6_course_118 : decode cX6_course 118 = .ok (.aload_n 0, 1) := by decide +kernel
theorem dX6_course_119 : decode cX6_course 119 = .ok (.iload_n 1, 1) := by decide +kernel
theorem dX6_course_120 : decode cX6_course 120 = .ok (.invokevirtual 118, 3) := by decide +kernel
theorem dX6_course_123 : decode cX6_course 123 = .ok (.ireturn, 1) := by decide +kernel
set_option maxRecDepth 20000 in
theorem ggX6_offence_X6_isPerson : GoodIn wsX6_offence wsX6_isPerson := goodIn_r _ [15, 16, 17, 18, 14, 19, 25, 26, 27, 28, 29, 30, 31, 32, 33, 34, 35, 36, 37, 38, 39, 40, 41, 42, 43, 44, 45, 46, 47, 48, 49, 50, 51, 52] (by decide +kernel) (by decide +kernel)
set_option maxRecDepth 20000 in
theorem gX6_offence_X6_isPerson : GoodIn wsX6_offence (wsV RX6 111 RX6 yX6_isPerson wsX6_isPerson) := goodIn_app (goodIn_of _ (by decide +kernel)) ggX6_offence_X6_isPerson
set_option maxRecDepth 20000 in
theorem ggX6_offence_X6_lies : GoodIn wsX6_offence wsX6_lies := goodIn_r _ [19] (by decide +kernel) (by decide +kernel)
set_option maxRecDepth 20000 in
theorem gX6_offence_X6_lies : GoodIn wsX6_offence (va_wsS RX6 90 yX6_lies wsX6_lies) := goodIn_app (goodIn_of _ (by decide +kernel)) ggX6_offence_X6_lies
set_option maxRecDepth 20000 in
theorem ggX6_offence_X6_fails : GoodIn wsX6_offence wsX6_fails := goodIn_r _ [23, 24, 25, 26, 27, 28, 29, 30, 31, 32, 33, 34, 35, 36, 37, 38, 39, 40, 41, 42, 43, 44, 45, 46, 47, 48, 49, 50, 51, 52] (by decide +kernel) (by decide +kernel)
set_option maxRecDepth 20000 in
theorem gX6_offence_X6_fails : GoodIn wsX6_offence (wsV RX6 97 RX6 yX6_fails wsX6_fails) := goodIn_app (goodIn_of _ (by decide +kernel)) ggX6_offence_X6_fails
theorem dX6_offence_0 : decode cX6_offence 0 = .ok (.aload_n 0, 1) := by decide +kernel
theorem dX6_offence_1 : decode cX6_offence 1 = .ok (.aload_n 0, 1) := by decide +kernel
theorem dX6_offence_2 : decode cX6_offence 2 = .ok (.iload_n 1, 1) := by decide +kernel
theorem dX6_offence_3 : decode cX6_offence 3 = .ok (.invokevirtual 111, 3) := by decide +kernel
theorem dX6_offence_6 : decode cX6_offence 6 = .ok (.ifCond .ne 7, 3) := by decide +kernel
theorem dX6_offence_9 : decode cX6_offence 9 = .ok (.iconst 1, 1) := by decide +kernel
theorem dX6_offence_10 : decode cX6_offence 10 = .ok (.goto 42, 3) := by decide +kernel
theorem dX6_offence_13 : decode cX6_offence 13 = .ok (.iload_n 2, 1) := by decide +kernel
theorem dX6_offence_14 : decode cX6_offence 14 = .ok (.iconst 0, 1) := by decide +kernel
theorem dX6_offence_15 : decode cX6_offence 15 = .ok (.bipush 100, 2) := by decide +kernel
theorem dX6_offence_17 : decode cX6_offence 17 = .ok (.invokestatic 90, 3) := by decide +kernel
theorem dX6_offence_20 : decode cX6_offence 20 = .ok (.ifCond .ne 7, 3) := by decide +kernel
theorem dX6_offence_23 : decode cX6_offence 23 = .ok (.iconst 2, 1) := by decide +kernel
theorem dX6_offence_24 : decode cX6_offence 24 = .ok (.goto 28, 3) := by decide +kernel
theorem dX6_offence_27 : decode cX6_offence 27 = .ok (.aload_n 0, 1) := by decide +kernel
theorem dX6_offence_28 : decode cX6_offence 28 = .ok (.getfield 7, 3) := by decide +kernel
theorem dX6_offence_31 : decode cX6_offence 31 = .ok (.iload_n 1, 1) := by decide +kernel
theorem dX6_offence_32 : decode cX6_offence 32 = .ok (.baload, 1) := by decide +kernel
theorem dX6_offence_33 : decode cX6_offence 33 = .ok (.ifCond .ne 14, 3) := by decide +kernel
theorem dX6_offence_36 : decode cX6_offence 36 = .ok (.aload_n 0, 1) := by decide +kernel
theorem dX6_offence_37 : decode cX6_offence 37 = .ok (.getfield 32, 3) := by decide +kernel
theorem dX6_offence_40 : decode cX6_offence 40 = .ok (.iload_n 1, 1) := by decide +kernel
theorem dX6_offence_41 : decode cX6_offence 41 = .ok (.iaload, 1) := by decide +kernel
theorem dX6_offence_42 : decode cX6_offence 42 = .ok (.bipush 50, 2) := by decide +kernel
theorem dX6_offence_44 : decode cX6_offence 44 = .ok (.if_icmp .ne 7, 3) := by decide +kernel
theorem dX6_offence_47 : decode cX6_offence 47 = .ok (.iconst 3, 1) := by decide +kernel
theorem dX6_offence_48 : decode cX6_offence 48 = .ok (.goto 4, 3) := by decide +kernel
theorem dX6_offence_51 : decode cX6_offence 51 = .ok (.iconst 0, 1) := by decide +kernel
theorem dX6_offence_52 : decode cX6_offence 52 = .ok (.invokevirtual 97, 3) := by decide +kernel
theorem dX6_offence_55 : decode cX6_offence 55 = .ok (.ifCond .eq 5, 3) := by decide +kernel
theorem dX6_offence_58 : decode cX6_offence 58 = .ok (.iconst 0, 1) := by decide +kernel
theorem dX6_offence_59 : decode cX6_offence 59 = .ok (.ireturn, 1) := by decide +kernel
theorem dX6_offence_60 : decode cX6_offence 60 = .ok (.bipush 50, 2) := by decide +kernel
theorem dX6_offence_62 : decode cX6_offence 62 = .ok (.iload_n 1, 1) := by decide +kernel
theorem dX6_offence_63 : decode cX6_offence 63 = .ok (.imul, 1) := by decide +kernel
theorem dX6_offence_64 : decode cX6_offence 64 = .ok (.aload_n 0, 1) := by decide +kernel
theorem dX6_offence_65 : decode cX6_offence 65 = .ok (.getfield 35, 3) := by decide +kernel
theorem dX6_offence_68 : decode cX6_offence 68 = .ok (.iload_n 1, 1) := by decide +kernel
theorem dX6_offence_69 : decode cX6_offence 69 = .ok (.iaload, 1) := by decide +kernel
theorem dX6_offence_70 : decode cX6_offence 70 = .ok (.iadd, 1) := by decide +kernel
theorem dX6_offence_71 : decode cX6_offence 71 = .ok (.istore_n 3, 1) := by decide +kernel
theorem dX6_offence_72 : decode cX6_offence 72 = .ok (.aload_n 0, 1) := by decide +kernel
theorem dX6_offence_73 : decode cX6_offence 73 = .ok (.getfield 56, 3) := by decide +kernel
theorem dX6_offence_76 : decode cX6_offence 76 = .ok (.iload_n 3, 1) := by decide +kernel
theorem dX6_offence_77 : decode cX6_offence 77 = .ok (.iload_n 2, 1) := by decide +kernel
theorem dX6_offence_78 : decode cX6_offence 78 = .ok (.iastore, 1) := by decide +kernel
theorem dX6_offence_79 : decode cX6_offence 79 = .ok (.aload_n 0, 1) := by decide +kernel
theorem dX6_offence_80 : decode cX6_offence 80 = .ok (.getfield 59, 3) := by decide +kernel
theorem dX6_offence_83 : decode cX6_offence 83 = .ok (.iload_n 3, 1) := by decide +kernel
theorem dX6_offence_84 : decode cX6_offence 84 = .ok (.aload_n 0, 1) := by decide +kernel
theorem dX6_offence_85 : decode cX6_offence 85 = .ok (.getfield 101, 3) := by decide +kernel
theorem dX6_offence_88 : decode cX6_offence 88 = .ok (.iastore, 1) := by decide +kernel
theorem dX6_offence_89 : decode cX6_offence 89 = .ok (.aload_n 0, 1) := by decide +kernel
theorem dX6_offence_90 : decode cX6_offence 90 = .ok (.getfield 62, 3) := by decide +kernel
theorem dX6_offence_93 : decode cX6_offence 93 = .ok (.iload_n 3, 1) := by decide +kernel
theorem dX6_offence_94 : decode cX6_offence 94 = .ok (.aload_n 0, 1) := by decide +kernel
theorem dX6_offence_95 : decode cX6_offence 95 = .ok (.getfield 23, 3) := by decide +kernel
theorem dX6_offence_98 : decode cX6_offence 98 = .ok (.iload_n 1, 1) := by decide +kernel
theorem dX6_offence_99 : decode cX6_offence 99 = .ok (.iaload, 1) := by decide +kernel
theorem dX6_offence_100 : decode cX6_offence 100 = .ok (.ifCond .le 7, 3) := by decide +kernel
theorem dX6_offence_103 : decode cX6_offence 103 = .ok (.iconst 1, 1) := by decide +kernel
theorem dX6_offence_104 : decode cX6_offence 104 = .ok (.goto 4, 3) := by decide +kernel
theorem dX6_offence_107 : decode cX6_offence 107 = .ok (.iconst 0, 1) := by decide +kernel
theorem dX6_offence_108 : decode cX6_offence 108 = .ok (.bastore, 1) := by decide +kernel
theorem dX6_offence_109 : decode cX6_offence 109 = .ok (.aload_n 0, 1) := by decide +kernel
theorem dX6_offence_110 : decode cX6_offence 110 = .ok (.getfield 65, 3) := by decide +kernel
theorem dX6_offence_113 : decode cX6_offence 113 = .ok (.iload_n 3, 1) := by decide +kernel
theorem dX6_offence_114 : decode cX6_offence 114 = .ok (.iconst 0, 1) := by decide +kernel
theorem dX6_offence_115 : decode cX6_offence 115 = .ok (.bastore, 1) := by decide +kernel
theorem dX6_offence_116 : decode cX6_offence 116 = .ok (.aload_n 0, 1) := by decide +kernel
theorem dX6_offence_117 : decode cX6_offence 117 = .ok (.getfield 23, 3) := by decide +kernel
theorem dX6_offence_120 : decode cX6_offence 120 = .ok (.iload_n 1, 1) := by decide +kernel
theorem dX6_offence_121 : decode cX6_offence 121 = .ok (.dup2, 1) := by decide +kernel
theorem dX6_offence_122 : decode cX6_offence 122 = .ok (.iaload, 1) := by decide +kernel
theorem dX6_offence_123 : decode cX6_offence 123 = .ok (.aload_n 0, 1) := by decide +kernel
theorem dX6_offence_124 : decode cX6_offence 124 = .ok (.getfield 62, 3) := by decide +kernel
theorem dX6_offence_127 : decode cX6_offence 127 = .ok (.iload_n 3, 1) := by decide +kernel
theorem dX6_offence_128 : decode cX6_offence 128 = .ok (.baload, 1) := by decide +kernel
theorem dX6_offence_129 : decode cX6_offence 129 = .ok (.ifCond .eq 7, 3) := by decide +kernel
theorem dX6_offence_132 : decode cX6_offence 132 = .ok (.iconst 1, 1) := by decide +kernel
theorem dX6_offence_133 : decode cX6_offence 133 = .ok (.goto 4, 3) := by decide +kernel
theorem dX6_offence_136 : decode cX6_offence 136 = .ok (.iconst 0, 1) := by decide +kernel
theorem dX6_offence_137 : decode cX6_offence 137 = .ok (.isub, 1) := by decide +kernel
theorem dX6_offence_138 : decode cX6_offence 138 = .ok (.iastore, 1) := by decide +kernel
theorem dX6_offence_139 : decode cX6_offence 139 = .ok (.aload_n 0, 1) := by decide +kernel
theorem dX6_offence_140 : decode cX6_offence 140 = .ok (.getfield 38, 3) := by decide +kernel
theorem dX6_offence_143 : decode cX6_offence 143 = .ok (.iload_n 1, 1) := by decide +kernel
theorem dX6_offence_144 : decode cX6_offence 144 = .ok (.iconst (-1), 1) := by decide +kernel
theorem dX6_offence_145 : decode cX6_offence 145 = .ok (.iastore, 1) := by decide +kernel
theorem dX6_offence_146 : decode cX6_offence 146 = .ok (.aload_n 0, 1) := by decide +kernel
theorem dX6_offence_147 : decode cX6_offence 147 = .ok (.getfield 32, 3) := by decide +kernel
theorem dX6_offence_150 : decode cX6_offence 150 = .ok (.iload_n 1, 1) := by decide +kernel
theorem dX6_offence_151 : decode cX6_offence 151 = .ok (.dup2, 1) := by decide +kernel
theorem dX6_offence_152 : decode cX6_offence 152 = .ok (.iaload, 1) := by decide +kernel
theorem dX6_offence_153 : decode cX6_offence 153 = .ok (.iconst 1, 1) := by decide +kernel
theorem dX6_offence_154 : decode cX6_offence 154 = .ok (.iadd, 1) := by decide +kernel
theorem dX6_offence_155 : decode cX6_offence 155 = .ok (.iastore, 1) := by decide +kernel
theorem dX6_offence_156 : decode cX6_offence 156 = .ok (.aload_n 0, 1) := by decide +kernel
theorem dX6_offence_157 : decode cX6_offence 157 = .ok (.getfield 35, 3) := by decide +kernel
theorem dX6_offence_160 : decode cX6_offence 160 = .ok (.iload_n 1, 1) := by decide +kernel
theorem dX6_offence_161 : decode cX6_offence 161 = .ok (.dup2, 1) := by decide +kernel
theorem dX6_offence_162 : decode cX6_offence 162 = .ok (.iaload, 1) := by decide +kernel
theorem dX6_offence_163 : decode cX6_offence 163 = .ok (.iconst 1, 1) := by decide +kernel
theorem dX6_offence_164 : decode cX6_offence 164 = .ok (.iadd, 1) := by decide +kernel
theorem dX6_offence_165 : decode cX6_offence 165 = .ok (.iastore, 1) := by decide +kernel
theorem dX6_offence_166 : decode cX6_offence 166 = .ok (.aload_n 0, 1) := by decide +kernel
theorem dX6_offence_167 : decode cX6_offence 167 = .ok (.getfield 35, 3) := by decide +kernel
theorem dX6_offence_170 : decode cX6_offence 170 = .ok (.iload_n 1, 1) := by decide +kernel
theorem dX6_offence_171 : decode cX6_offence 171 = .ok (.iaload, 1) := by decide +kernel
theorem dX6_offence_172 : decode cX6_offence 172 = .ok (.iconst 1, 1) := by decide +kernel
theorem dX6_offence_173 : decode cX6_offence 173 = .ok (.isub, 1) := by decide +kernel
theorem dX6_offence_174 : decode cX6_offence 174 = .ok (.ireturn, 1) := by decide +kernel
set_option maxRecDepth 20000 in
theorem ggX6_appeal_X6_isPerson : GoodIn wsX6_appeal wsX6_isPerson := goodIn_r _ [9, 10, 11, 12, 8, 13, 42, 43, 44, 45, 46, 47, 48, 49, 50, 51, 52, 53, 54, 55, 56, 57, 58, 59, 60, 61, 62, 63, 64, 65, 66, 67, 68, 69] (by decide +kernel) (by decide +kernel)
set_option maxRecDepth 20000 in
theorem gX6_appeal_X6_isPerson : GoodIn wsX6_appeal (wsV RX6 111 RX6 yX6_isPerson wsX6_isPerson) := goodIn_app (goodIn_of _ (by decide +kernel)) ggX6_appeal_X6_isPerson
set_option maxRecDepth 20000 in
theorem ggX6_appeal_X6_lies : GoodIn wsX6_appeal wsX6_lies := goodIn_r _ [13] (by decide +kernel) (by decide +kernel)
set_option maxRecDepth 20000 in
theorem gX6_appeal_X6_lies : GoodIn wsX6_appeal (va_wsS RX6 90 yX6_lies wsX6_lies) := goodIn_app (goodIn_of _ (by decide +kernel)) ggX6_appeal_X6_lies
set_option maxRecDepth 20000 in
theorem ggX6_appeal_X6_fails : GoodIn wsX6_appeal wsX6_fails := goodIn_r _ [17, 18, 42, 43, 44, 45, 46, 47, 48, 49, 50, 51, 52, 53, 54, 55, 56, 57, 58, 59, 60, 61, 62, 63, 64, 65, 66, 67, 68, 69] (by decide +kernel) (by decide +kernel)
set_option maxRecDepth 20000 in
theorem gX6_appeal_X6_fails : GoodIn wsX6_appeal (wsV RX6 97 RX6 yX6_fails wsX6_fails) := goodIn_app (goodIn_of _ (by decide +kernel)) ggX6_appeal_X6_fails
set_option maxRecDepth 20000 in
theorem ggX6_appeal_X6_raises : GoodIn wsX6_appeal wsX6_raises := goodIn_r _ [22, 23, 42, 43, 44, 45, 46, 47, 48, 49, 50, 51, 52, 53, 54, 55, 56, 57, 58, 59, 60, 61, 62, 63, 64, 65, 66, 67, 68, 69] (by decide +kernel) (by decide +kernel)
set_option maxRecDepth 20000 in
theorem gX6_appeal_X6_raises : GoodIn wsX6_appeal (wsV RX6 114 RX6 yX6_raises wsX6_raises) := goodIn_app (goodIn_of _ (by decide +kernel)) ggX6_appeal_X6_raises
set_option maxRecDepth 20000 in
theorem ggX6_appeal_X6_releaseOf : GoodIn wsX6_appeal wsX6_releaseOf := goodIn_r _ [27, 28, 2, 29, 30, 31, 32, 33, 8, 34, 35, 36, 37, 38, 39, 40, 1, 3, 41, 42, 43, 44, 45, 46, 47, 48, 49, 50, 51, 52, 53, 54, 55, 56, 57, 58, 59, 60, 61, 62, 63, 64, 65, 66, 67, 68, 69] (by decide +kernel) (by decide +kernel)
set_option maxRecDepth 20000 in
theorem gX6_appeal_X6_releaseOf : GoodIn wsX6_appeal (wsV RX6 118 RX6 yX6_releaseOf wsX6_releaseOf) := goodIn_app (goodIn_of _ (by decide +kernel)) ggX6_appeal_X6_releaseOf
theorem dX6_appeal_0 : decode cX6_appeal 0 = .ok (.aload_n 0, 1) := by decide +kernel
theorem dX6_appeal_1 : decode cX6_appeal 1 = .ok (.iload_n 1, 1) := by decide +kernel
theorem dX6_appeal_2 : decode cX6_appeal 2 = .ok (.invokevirtual 111, 3) := by decide +kernel
theorem dX6_appeal_5 : decode cX6_appeal 5 = .ok (.ifCond .eq 23, 3) := by decide +kernel
theorem dX6_appeal_8 : decode cX6_appeal 8 = .ok (.iload_n 2, 1) := by decide +kernel
theorem dX6_appeal_9 : decode cX6_appeal 9 = .ok (.iconst 0, 1) := by decide +kernel
theorem dX6_appeal_10 : decode cX6_appeal 10 = .ok (.aload_n 0, 1) := by decide +kernel
theorem dX6_appeal_11 : decode cX6_appeal 11 = .ok (.getfield 35, 3) := by decide +kernel
theorem dX6_appeal_14 : decode cX6_appeal 14 = .ok (.iload_n 1, 1) := by decide +kernel
theorem dX6_appeal_15 : decode cX6_appeal 15 = .ok (.iaload, 1) := by decide +kernel
theorem dX6_appeal_16 : decode cX6_appeal 16 = .ok (.iconst 1, 1) := by decide +kernel
theorem dX6_appeal_17 : decode cX6_appeal 17 = .ok (.isub, 1) := by decide +kernel
theorem dX6_appeal_18 : decode cX6_appeal 18 = .ok (.invokestatic 90, 3) := by decide +kernel
theorem dX6_appeal_21 : decode cX6_appeal 21 = .ok (.ifCond .eq 7, 3) := by decide +kernel
theorem dX6_appeal_24 : decode cX6_appeal 24 = .ok (.iconst 1, 1) := by decide +kernel
theorem dX6_appeal_25 : decode cX6_appeal 25 = .ok (.goto 4, 3) := by decide +kernel
theorem dX6_appeal_28 : decode cX6_appeal 28 = .ok (.iconst 0, 1) := by decide +kernel
theorem dX6_appeal_29 : decode cX6_appeal 29 = .ok (.istore_n 3, 1) := by decide +kernel
theorem dX6_appeal_30 : decode cX6_appeal 30 = .ok (.iload_n 3, 1) := by decide +kernel
theorem dX6_appeal_31 : decode cX6_appeal 31 = .ok (.ifCond .eq 12, 3) := by decide +kernel
theorem dX6_appeal_34 : decode cX6_appeal 34 = .ok (.bipush 50, 2) := by decide +kernel
theorem dX6_appeal_36 : decode cX6_appeal 36 = .ok (.iload_n 1, 1) := by decide +kernel
theorem dX6_appeal_37 : decode cX6_appeal 37 = .ok (.imul, 1) := by decide +kernel
theorem dX6_appeal_38 : decode cX6_appeal 38 = .ok (.iload_n 2, 1) := by decide +kernel
theorem dX6_appeal_39 : decode cX6_appeal 39 = .ok (.iadd, 1) := by decide +kernel
theorem dX6_appeal_40 : decode cX6_appeal 40 = .ok (.goto 4, 3) := by decide +kernel
theorem dX6_appeal_43 : decode cX6_appeal 43 = .ok (.iconst 0, 1) := by decide +kernel
theorem dX6_appeal_44 : decode cX6_appeal 44 = .ok (.istore 4, 2) := by decide +kernel
theorem dX6_appeal_46 : decode cX6_appeal 46 = .ok (.aload_n 0, 1) := by decide +kernel
theorem dX6_appeal_47 : decode cX6_appeal 47 = .ok (.iload_n 3, 1) := by decide +kernel
theorem dX6_appeal_48 : decode cX6_appeal 48 = .ok (.ifCond .ne 7, 3) := by decide +kernel
theorem dX6_appeal_51 : decode cX6_appeal 51 = .ok (.iconst 1, 1) := by decide +kernel
theorem dX6_appeal_52 : decode cX6_appeal 52 = .ok (.goto 27, 3) := by decide +kernel
theorem dX6_appeal_55 : decode cX6_appeal 55 = .ok (.aload_n 0, 1) := by decide +kernel
theorem dX6_appeal_56 : decode cX6_appeal 56 = .ok (.getfield 7, 3) := by decide +kernel
theorem dX6_appeal_59 : decode cX6_appeal 59 = .ok (.iload_n 1, 1) := by decide +kernel
theorem dX6_appeal_60 : decode cX6_appeal 60 = .ok (.baload, 1) := by decide +kernel
theorem dX6_appeal_61 : decode cX6_appeal 61 = .ok (.ifCond .ne 13, 3) := by decide +kernel
theorem dX6_appeal_64 : decode cX6_appeal 64 = .ok (.aload_n 0, 1) := by decide +kernel
theorem dX6_appeal_65 : decode cX6_appeal 65 = .ok (.getfield 65, 3) := by decide +kernel
theorem dX6_appeal_68 : decode cX6_appeal 68 = .ok (.iload 4, 2) := by decide +kernel
theorem dX6_appeal_70 : decode cX6_appeal 70 = .ok (.baload, 1) := by decide +kernel
theorem dX6_appeal_71 : decode cX6_appeal 71 = .ok (.ifCond .eq 7, 3) := by decide +kernel
theorem dX6_appeal_74 : decode cX6_appeal 74 = .ok (.iconst 2, 1) := by decide +kernel
theorem dX6_appeal_75 : decode cX6_appeal 75 = .ok (.goto 4, 3) := by decide +kernel
theorem dX6_appeal_78 : decode cX6_appeal 78 = .ok (.iconst 0, 1) := by decide +kernel
theorem dX6_appeal_79 : decode cX6_appeal 79 = .ok (.invokevirtual 97, 3) := by decide +kernel
theorem dX6_appeal_82 : decode cX6_appeal 82 = .ok (.ifCond .eq 5, 3) := by decide +kernel
theorem dX6_appeal_85 : decode cX6_appeal 85 = .ok (.iconst 0, 1) := by decide +kernel
theorem dX6_appeal_86 : decode cX6_appeal 86 = .ok (.ireturn, 1) := by decide +kernel
theorem dX6_appeal_87 : decode cX6_appeal 87 = .ok (.aload_n 0, 1) := by decide +kernel
theorem dX6_appeal_88 : decode cX6_appeal 88 = .ok (.getfield 65, 3) := by decide +kernel
theorem dX6_appeal_91 : decode cX6_appeal 91 = .ok (.iload 4, 2) := by decide +kernel
theorem dX6_appeal_93 : decode cX6_appeal 93 = .ok (.iconst 1, 1) := by decide +kernel
theorem dX6_appeal_94 : decode cX6_appeal 94 = .ok (.bastore, 1) := by decide +kernel
theorem dX6_appeal_95 : decode cX6_appeal 95 = .ok (.aload_n 0, 1) := by decide +kernel
theorem dX6_appeal_96 : decode cX6_appeal 96 = .ok (.getfield 62, 3) := by decide +kernel
theorem dX6_appeal_99 : decode cX6_appeal 99 = .ok (.iload 4, 2) := by decide +kernel
theorem dX6_appeal_101 : decode cX6_appeal 101 = .ok (.baload, 1) := by decide +kernel
theorem dX6_appeal_102 : decode cX6_appeal 102 = .ok (.ifCond .eq 8, 3) := by decide +kernel
theorem dX6_appeal_105 : decode cX6_appeal 105 = .ok (.aload_n 0, 1) := by decide +kernel
theorem dX6_appeal_106 : decode cX6_appeal 106 = .ok (.iload_n 1, 1) := by decide +kernel
theorem dX6_appeal_107 : decode cX6_appeal 107 = .ok (.invokevirtual 114, 3) := by decide +kernel
theorem dX6_appeal_110 : decode cX6_appeal 110 = .ok (.aload_n 0, 1) := by decide +kernel
theorem dX6_appeal_111 : decode cX6_appeal 111 = .ok (.iload_n 1, 1) := by decide +kernel
theorem dX6_appeal_112 : decode cX6_appeal 112 = .ok (.invokevirtual 118, 3) := by decide +kernel
theorem dX6_appeal_115 : decode cX6_appeal 115 = .ok (.ireturn, 1) := by decide +kernel
set_option maxRecDepth 20000 in
theorem ggX6_release_X6_isPerson : GoodIn wsX6_release wsX6_isPerson := goodIn_r _ [5, 6, 7, 8, 4, 9, 36, 37, 38, 39, 40, 41, 42, 43, 44, 45, 46, 47, 48, 49, 50, 51, 52, 53, 54, 55, 56, 57, 58, 59, 60, 61, 62, 63] (by decide +kernel) (by decide +kernel)
set_option maxRecDepth 20000 in
theorem gX6_release_X6_isPerson : GoodIn wsX6_release (wsV RX6 111 RX6 yX6_isPerson wsX6_isPerson) := goodIn_app (goodIn_of _ (by decide +kernel)) ggX6_release_X6_isPerson
set_option maxRecDepth 20000 in
theorem ggX6_release_X6_fails : GoodIn wsX6_release wsX6_fails := goodIn_r _ [13, 14, 36, 37, 38, 39, 40, 41, 42, 43, 44, 45, 46, 47, 48, 49, 50, 51, 52, 53, 54, 55, 56, 57, 58, 59, 60, 61, 62, 63] (by decide +kernel) (by decide +kernel)
set_option maxRecDepth 20000 in
theorem gX6_release_X6_fails : GoodIn wsX6_release (wsV RX6 97 RX6 yX6_fails wsX6_fails) := goodIn_app (goodIn_of _ (by decide +kernel)) ggX6_release_X6_fails
set_option maxRecDepth 20000 in
theorem ggX6_release_X6_releaseOf : GoodIn wsX6_release wsX6_releaseOf := goodIn_r _ [18, 19, 20, 21, 22, 23, 24, 25, 4, 26, 27, 28, 29, 30, 31, 32, 33, 34, 35, 36, 37, 38, 39, 40, 41, 42, 43, 44, 45, 46, 47, 48, 49, 50, 51, 52, 53, 54, 55, 56, 57, 58, 59, 60, 61, 62, 63] (by decide +kernel) (by decide +kernel)
set_option maxRecDepth 20000 in
theorem gX6_release_X6_releaseOf : GoodIn wsX6_release (wsV RX6 118 RX6 yX6_releaseOf wsX6_releaseOf) := goodIn_app (goodIn_of _ (by decide +kernel)) ggX6_release_X6_releaseOf
theorem dX6_release_0 : decode cX6_release 0 = .ok (.aload_n 0, 1) := by decide +kernel
theorem dX6_release_1 : decode cX6_release 1 = .ok (.aload_n 0, 1) := by decide +kernel
theorem dX6_release_2 : decode cX6_release 2 = .ok (.iload_n 1, 1) := by decide +kernel
theorem dX6_release_3 : decode cX6_release 3 = .ok (.invokevirtual 111, 3) := by decide +kernel
theorem dX6_release_6 : decode cX6_release 6 = .ok (.ifCond .eq 7, 3) := by decide +kernel
theorem dX6_release_9 : decode cX6_release 9 = .ok (.iconst 0, 1) := by decide +kernel
theorem dX6_release_10 : decode cX6_release 10 = .ok (.goto 4, 3) := by decide +kernel
theorem dX6_release_13 : decode cX6_release 13 = .ok (.iconst 1, 1) := by decide +kernel
theorem dX6_release_14 : decode cX6_release 14 = .ok (.invokevirtual 97, 3) := by decide +kernel
theorem dX6_release_17 : decode cX6_release 17 = .ok (.ifCond .eq 7, 3) := by decide +kernel
theorem dX6_release_20 : decode cX6_release 20 = .ok (.iconst 0, 1) := by decide +kernel
theorem dX6_release_21 : decode cX6_release 21 = .ok (.goto 8, 3) := by decide +kernel
theorem dX6_release_24 : decode cX6_release 24 = .ok (.aload_n 0, 1) := by decide +kernel
theorem dX6_release_25 : decode cX6_release 25 = .ok (.iload_n 1, 1) := by decide +kernel
theorem dX6_release_26 : decode cX6_release 26 = .ok (.invokevirtual 118, 3) := by decide +kernel
theorem dX6_release_29 : decode cX6_release 29 = .ok (.ireturn, 1) := by decide +kernel
set_option maxRecDepth 20000 in
theorem ggX6_isIn_X6_isPerson : GoodIn wsX6_isIn wsX6_isPerson := goodIn_r _ [6, 7, 8, 9, 5, 10, 16, 17, 18, 19, 20, 21, 22, 23, 24, 25, 26, 27, 28, 29, 30, 31, 32, 33, 34, 35, 36, 37, 38, 39, 40, 41, 42, 43] (by decide +kernel) (by decide +kernel)
set_option maxRecDepth 20000 in
theorem gX6_isIn_X6_isPerson : GoodIn wsX6_isIn (wsV RX6 111 RX6 yX6_isPerson wsX6_isPerson) := goodIn_app (goodIn_of _ (by decide +kernel)) ggX6_isIn_X6_isPerson
set_option maxRecDepth 20000 in
theorem ggX6_isIn_X6_fails : GoodIn wsX6_isIn wsX6_fails := goodIn_r _ [14, 15, 16, 17, 18, 19, 20, 21, 22, 23, 24, 25, 26, 27, 28, 29, 30, 31, 32, 33, 34, 35, 36, 37, 38, 39, 40, 41, 42, 43] (by decide +kernel) (by decide +kernel)
set_option maxRecDepth 20000 in
theorem gX6_isIn_X6_fails : GoodIn wsX6_isIn (wsV RX6 97 RX6 yX6_fails wsX6_fails) := goodIn_app (goodIn_of _ (by decide +kernel)) ggX6_isIn_X6_fails
theorem dX6_isIn_0 : decode cX6_isIn 0 = .ok (.aload_n 0, 1) := by decide +kernel
theorem dX6_isIn_1 : decode cX6_isIn 1 = .ok (.aload_n 0, 1) := by decide +kernel
theorem dX6_isIn_2 : decode cX6_isIn 2 = .ok (.iload_n 1, 1) := by decide +kernel
theorem dX6_isIn_3 : decode cX6_isIn 3 = .ok (.invokevirtual 111, 3) := by decide +kernel
theorem dX6_isIn_6 : decode cX6_isIn 6 = .ok (.ifCond .eq 7, 3) := by decide +kernel
theorem dX6_isIn_9 : decode cX6_isIn 9 = .ok (.iconst 0, 1) := by decide +kernel
theorem dX6_isIn_10 : decode cX6_isIn 10 = .ok (.goto 4, 3) := by decide +kernel
theorem dX6_isIn_13 : decode cX6_isIn 13 = .ok (.iconst 1, 1) := by decide +kernel
theorem dX6_isIn_14 : decode cX6_isIn 14 = .ok (.invokevirtual 97, 3) := by decide +kernel
theorem dX6_isIn_17 : decode cX6_isIn 17 = .ok (.ifCond .ne 16, 3) := by decide +kernel
theorem dX6_isIn_20 : decode cX6_isIn 20 = .ok (.aload_n 0, 1) := by decide +kernel
theorem dX6_isIn_21 : decode cX6_isIn 21 = .ok (.getfield 7, 3) := by decide +kernel
theorem dX6_isIn_24 : decode cX6_isIn 24 = .ok (.iload_n 1, 1) := by decide +kernel
theorem dX6_isIn_25 : decode cX6_isIn 25 = .ok (.baload, 1) := by decide +kernel
theorem dX6_isIn_26 : decode cX6_isIn 26 = .ok (.ifCond .ne 7, 3) := by decide +kernel
theorem dX6_isIn_29 : decode cX6_isIn 29 = .ok (.iconst 1, 1) := by decide +kernel
theorem dX6_isIn_30 : decode cX6_isIn 30 = .ok (.goto 4, 3) := by decide +kernel
theorem dX6_isIn_33 : decode cX6_isIn 33 = .ok (.iconst 0, 1) := by decide +kernel
theorem dX6_isIn_34 : decode cX6_isIn 34 = .ok (.ireturn, 1) := by decide +kernel
set_option maxRecDepth 20000 in
theorem ggX6_of_X6_isPerson : GoodIn wsX6_of wsX6_isPerson := goodIn_r _ [5, 6, 7, 8, 4, 9, 15, 16, 17, 18, 19, 20, 21, 22, 23, 24, 25, 26, 27, 28, 29, 30, 31, 32, 33, 34, 35, 36, 37, 38, 39, 40, 41, 42] (by decide +kernel) (by decide +kernel)
set_option maxRecDepth 20000 in
theorem gX6_of_X6_isPerson : GoodIn wsX6_of (wsV RX6 111 RX6 yX6_isPerson wsX6_isPerson) := goodIn_app (goodIn_of _ (by decide +kernel)) ggX6_of_X6_isPerson
set_option maxRecDepth 20000 in
theorem ggX6_of_X6_fails : GoodIn wsX6_of wsX6_fails := goodIn_r _ [13, 14, 15, 16, 17, 18, 19, 20, 21, 22, 23, 24, 25, 26, 27, 28, 29, 30, 31, 32, 33, 34, 35, 36, 37, 38, 39, 40, 41, 42] (by decide +kernel) (by decide +kernel)
set_option maxRecDepth 20000 in
theorem gX6_of_X6_fails : GoodIn wsX6_of (wsV RX6 97 RX6 yX6_fails wsX6_fails) := goodIn_app (goodIn_of _ (by decide +kernel)) ggX6_of_X6_fails
theorem dX6_of_0 : decode cX6_of 0 = .ok (.aload_n 0, 1) := by decide +kernel
theorem dX6_of_1 : decode cX6_of 1 = .ok (.aload_n 0, 1) := by decide +kernel
theorem dX6_of_2 : decode cX6_of 2 = .ok (.iload_n 2, 1) := by decide +kernel
theorem dX6_of_3 : decode cX6_of 3 = .ok (.invokevirtual 111, 3) := by decide +kernel
theorem dX6_of_6 : decode cX6_of 6 = .ok (.ifCond .eq 7, 3) := by decide +kernel
theorem dX6_of_9 : decode cX6_of 9 = .ok (.iconst 0, 1) := by decide +kernel
theorem dX6_of_10 : decode cX6_of 10 = .ok (.goto 4, 3) := by decide +kernel
theorem dX6_of_13 : decode cX6_of 13 = .ok (.iconst 1, 1) := by decide +kernel
theorem dX6_of_14 : decode cX6_of 14 = .ok (.invokevirtual 97, 3) := by decide +kernel
theorem dX6_of_17 : decode cX6_of 17 = .ok (.ifCond .eq 7, 3) := by decide +kernel
theorem dX6_of_20 : decode cX6_of 20 = .ok (.iconst 0, 1) := by decide +kernel
theorem dX6_of_21 : decode cX6_of 21 = .ok (.goto 6, 3) := by decide +kernel
theorem dX6_of_24 : decode cX6_of 24 = .ok (.aload_n 1, 1) := by decide +kernel
theorem dX6_of_25 : decode cX6_of 25 = .ok (.iload_n 2, 1) := by decide +kernel
theorem dX6_of_26 : decode cX6_of 26 = .ok (.iaload, 1) := by decide +kernel
theorem dX6_of_27 : decode cX6_of 27 = .ok (.ireturn, 1) := by decide +kernel
set_option maxRecDepth 20000 in
theorem ggX6_regime_X6_of : GoodIn wsX6_regime wsX6_of := goodIn_r _ [6, 7, 8, 9, 5, 10, 11, 12, 13, 14, 15, 16, 17, 18, 19, 20, 21, 22, 23, 24, 25, 26, 27, 28, 29, 30, 31, 32, 33, 34, 35, 36, 37, 38, 39, 40, 41, 42, 43, 44, 45, 46, 47] (by decide +kernel) (by decide +kernel)
set_option maxRecDepth 20000 in
theorem gX6_regime_X6_of : GoodIn wsX6_regime (wsV RX6 121 RX6 yX6_of wsX6_of) := goodIn_app (goodIn_of _ (by decide +kernel)) ggX6_regime_X6_of
theorem dX6_regime_0 : decode cX6_regime 0 = .ok (.aload_n 0, 1) := by decide +kernel
theorem dX6_regime_1 : decode cX6_regime 1 = .ok (.aload_n 0, 1) := by decide +kernel
theorem dX6_regime_2 : decode cX6_regime 2 = .ok (.getfield 23, 3) := by decide +kernel
theorem dX6_regime_5 : decode cX6_regime 5 = .ok (.iload_n 1, 1) := by decide +kernel
theorem dX6_regime_6 : decode cX6_regime 6 = .ok (.invokevirtual 121, 3) := by decide +kernel
theorem dX6_regime_9 : decode cX6_regime 9 = .ok (.ireturn, 1) := by decide +kernel
set_option maxRecDepth 20000 in
theorem ggX6_papers_X6_isPerson : GoodIn wsX6_papers wsX6_isPerson := goodIn_r _ [5, 6, 7, 8, 4, 9, 28, 29, 30, 31, 32, 33, 34, 35, 36, 37, 38, 39, 40, 41, 42, 43, 44, 45, 46, 47, 48, 49, 50, 51, 52, 53, 54, 55] (by decide +kernel) (by decide +kernel)
set_option maxRecDepth 20000 in
theorem gX6_papers_X6_isPerson : GoodIn wsX6_papers (wsV RX6 111 RX6 yX6_isPerson wsX6_isPerson) := goodIn_app (goodIn_of _ (by decide +kernel)) ggX6_papers_X6_isPerson
set_option maxRecDepth 20000 in
theorem ggX6_papers_X6_fails : GoodIn wsX6_papers wsX6_fails := goodIn_r _ [13, 14, 28, 29, 30, 31, 32, 33, 34, 35, 36, 37, 38, 39, 40, 41, 42, 43, 44, 45, 46, 47, 48, 49, 50, 51, 52, 53, 54, 55] (by decide +kernel) (by decide +kernel)
set_option maxRecDepth 20000 in
theorem gX6_papers_X6_fails : GoodIn wsX6_papers (wsV RX6 97 RX6 yX6_fails wsX6_fails) := goodIn_app (goodIn_of _ (by decide +kernel)) ggX6_papers_X6_fails
set_option maxRecDepth 20000 in
theorem ggX6_papers_X6_loses : GoodIn wsX6_papers wsX6_loses := goodIn_r _ [18, 19, 20, 21, 28, 29, 30, 31, 32, 33, 34, 35, 36, 37, 38, 39, 40, 41, 42, 43, 44, 45, 46, 47, 48, 49, 50, 51, 52, 53, 54, 55] (by decide +kernel) (by decide +kernel)
set_option maxRecDepth 20000 in
theorem gX6_papers_X6_loses : GoodIn wsX6_papers (wsV RX6 108 RX6 yX6_loses wsX6_loses) := goodIn_app (goodIn_of _ (by decide +kernel)) ggX6_papers_X6_loses
set_option maxRecDepth 20000 in
theorem ggX6_papers_X6_gains : GoodIn wsX6_papers wsX6_gains := goodIn_r _ [25, 26, 27, 28, 29, 30, 31, 32, 33, 34, 35, 36, 37, 38, 39, 40, 41, 42, 43, 44, 45, 46, 47, 48, 49, 50, 51, 52, 53, 54, 55] (by decide +kernel) (by decide +kernel)
set_option maxRecDepth 20000 in
theorem gX6_papers_X6_gains : GoodIn wsX6_papers (wsV RX6 104 RX6 yX6_gains wsX6_gains) := goodIn_app (goodIn_of _ (by decide +kernel)) ggX6_papers_X6_gains
theorem dX6_papers_0 : decode cX6_papers 0 = .ok (.aload_n 0, 1) := by decide +kernel
theorem dX6_papers_1 : decode cX6_papers 1 = .ok (.aload_n 0, 1) := by decide +kernel
theorem dX6_papers_2 : decode cX6_papers 2 = .ok (.iload_n 1, 1) := by decide +kernel
theorem dX6_papers_3 : decode cX6_papers 3 = .ok (.invokevirtual 111, 3) := by decide +kernel
theorem dX6_papers_6 : decode cX6_papers 6 = .ok (.ifCond .eq 7, 3) := by decide +kernel
theorem dX6_papers_9 : decode cX6_papers 9 = .ok (.iconst 0, 1) := by decide +kernel
theorem dX6_papers_10 : decode cX6_papers 10 = .ok (.goto 4, 3) := by decide +kernel
theorem dX6_papers_13 : decode cX6_papers 13 = .ok (.iconst 1, 1) := by decide +kernel
theorem dX6_papers_14 : decode cX6_papers 14 = .ok (.invokevirtual 97, 3) := by decide +kernel
theorem dX6_papers_17 : decode cX6_papers 17 = .ok (.ifCond .eq 7, 3) := by decide +kernel
theorem dX6_papers_20 : decode cX6_papers 20 = .ok (.iconst 0, 1) := by decide +kernel
theorem dX6_papers_21 : decode cX6_papers 21 = .ok (.goto 20, 3) := by decide +kernel
theorem dX6_papers_24 : decode cX6_papers 24 = .ok (.iload_n 2, 1) := by decide +kernel
theorem dX6_papers_25 : decode cX6_papers 25 = .ok (.ifCond .eq 11, 3) := by decide +kernel
theorem dX6_papers_28 : decode cX6_papers 28 = .ok (.aload_n 0, 1) := by decide +kernel
theorem dX6_papers_29 : decode cX6_papers 29 = .ok (.iload_n 1, 1) := by decide +kernel
theorem dX6_papers_30 : decode cX6_papers 30 = .ok (.invokevirtual 108, 3) := by decide +kernel
theorem dX6_papers_33 : decode cX6_papers 33 = .ok (.goto 8, 3) := by decide +kernel
theorem dX6_papers_36 : decode cX6_papers 36 = .ok (.aload_n 0, 1) := by decide +kernel
theorem dX6_papers_37 : decode cX6_papers 37 = .ok (.iload_n 1, 1) := by decide +kernel
theorem dX6_papers_38 : decode cX6_papers 38 = .ok (.invokevirtual 104, 3) := by decide +kernel
theorem dX6_papers_41 : decode cX6_papers 41 = .ok (.ireturn, 1) := by decide +kernel
set_option maxRecDepth 20000 in
theorem ggX6_isKind_X6_lies : GoodIn wsX6_isKind wsX6_lies := goodIn_r _ [4] (by decide +kernel) (by decide +kernel)
set_option maxRecDepth 20000 in
theorem gX6_isKind_X6_lies : GoodIn wsX6_isKind (va_wsS RX6 90 yX6_lies wsX6_lies) := goodIn_app (goodIn_of _ (by decide +kernel)) ggX6_isKind_X6_lies
theorem dX6_isKind_0 : decode cX6_isKind 0 = .ok (.iload_n 0, 1) := by decide +kernel
theorem dX6_isKind_1 : decode cX6_isKind 1 = .ok (.iconst 0, 1) := by decide +kernel
theorem dX6_isKind_2 : decode cX6_isKind 2 = .ok (.iconst 2, 1) := by decide +kernel
theorem dX6_isKind_3 : decode cX6_isKind 3 = .ok (.invokestatic 90, 3) := by decide +kernel
theorem dX6_isKind_6 : decode cX6_isKind 6 = .ok (.ireturn, 1) := by decide +kernel
theorem dX6_out_0 : decode cX6_out 0 = .ok (.iconst 0, 1) := by decide +kernel
theorem dX6_out_1 : decode cX6_out 1 = .ok (.istore_n 2, 1) := by decide +kernel
theorem dX6_out_2 : decode cX6_out 2 = .ok (.iconst 0, 1) := by decide +kernel
theorem dX6_out_3 : decode cX6_out 3 = .ok (.istore_n 3, 1) := by decide +kernel
theorem dX6_out_4 : decode cX6_out 4 = .ok (.iload_n 3, 1) := by decide +kernel
theorem dX6_out_5 : decode cX6_out 5 = .ok (.aload_n 0, 1) := by decide +kernel
theorem dX6_out_6 : decode cX6_out 6 = .ok (.getfield 87, 3) := by decide +kernel
theorem dX6_out_9 : decode cX6_out 9 = .ok (.if_icmp .ge 42, 3) := by decide +kernel
theorem dX6_out_12 : decode cX6_out 12 = .ok (.iload_n 2, 1) := by decide +kernel
theorem dX6_out_13 : decode cX6_out 13 = .ok (.aload_n 0, 1) := by decide +kernel
theorem dX6_out_14 : decode cX6_out 14 = .ok (.getfield 38, 3) := by decide +kernel
theorem dX6_out_17 : decode cX6_out 17 = .ok (.iload_n 3, 1) := by decide +kernel
theorem dX6_out_18 : decode cX6_out 18 = .ok (.iaload, 1) := by decide +kernel
theorem dX6_out_19 : decode cX6_out 19 = .ok (.iconst (-1), 1) := by decide +kernel
theorem dX6_out_20 : decode cX6_out 20 = .ok (.if_icmp .eq 22, 3) := by decide +kernel
theorem dX6_out_23 : decode cX6_out 23 = .ok (.aload_n 0, 1) := by decide +kernel
theorem dX6_out_24 : decode cX6_out 24 = .ok (.getfield 74, 3) := by decide +kernel
theorem dX6_out_27 : decode cX6_out 27 = .ok (.aload_n 0, 1) := by decide +kernel
theorem dX6_out_28 : decode cX6_out 28 = .ok (.getfield 38, 3) := by decide +kernel
theorem dX6_out_31 : decode cX6_out 31 = .ok (.iload_n 3, 1) := by decide +kernel
theorem dX6_out_32 : decode cX6_out 32 = .ok (.iaload, 1) := by decide +kernel
theorem dX6_out_33 : decode cX6_out 33 = .ok (.iaload, 1) := by decide +kernel
theorem dX6_out_34 : decode cX6_out 34 = .ok (.iload_n 1, 1) := by decide +kernel
theorem dX6_out_35 : decode cX6_out 35 = .ok (.if_icmp .ne 7, 3) := by decide +kernel
theorem dX6_out_38 : decode cX6_out 38 = .ok (.iconst 1, 1) := by decide +kernel
theorem dX6_out_39 : decode cX6_out 39 = .ok (.goto 4, 3) := by decide +kernel
theorem dX6_out_42 : decode cX6_out 42 = .ok (.iconst 0, 1) := by decide +kernel
theorem dX6_out_43 : decode cX6_out 43 = .ok (.iadd, 1) := by decide +kernel
theorem dX6_out_44 : decode cX6_out 44 = .ok (.istore_n 2, 1) := by decide +kernel
theorem dX6_out_45 : decode cX6_out 45 = .ok (.iinc 3 1, 3) := by decide +kernel
theorem dX6_out_48 : decode cX6_out 48 = .ok (.goto (-44), 3) := by decide +kernel
theorem dX6_out_51 : decode cX6_out 51 = .ok (.iload_n 2, 1) := by decide +kernel
theorem dX6_out_52 : decode cX6_out 52 = .ok (.ireturn, 1) := by decide +kernel
set_option maxRecDepth 20000 in
theorem ggX6_setTools_X6_isKind : GoodIn wsX6_setTools wsX6_isKind := goodIn_r _ [5, 6, 7, 4, 8] (by decide +kernel) (by decide +kernel)
set_option maxRecDepth 20000 in
theorem gX6_setTools_X6_isKind : GoodIn wsX6_setTools (va_wsS RX6 125 yX6_isKind wsX6_isKind) := goodIn_app (goodIn_of _ (by decide +kernel)) ggX6_setTools_X6_isKind
set_option maxRecDepth 20000 in
theorem ggX6_setTools_X6_lies : GoodIn wsX6_setTools wsX6_lies := goodIn_r _ [8] (by decide +kernel) (by decide +kernel)
set_option maxRecDepth 20000 in
theorem gX6_setTools_X6_lies : GoodIn wsX6_setTools (va_wsS RX6 90 yX6_lies wsX6_lies) := goodIn_app (goodIn_of _ (by decide +kernel)) ggX6_setTools_X6_lies
set_option maxRecDepth 20000 in
theorem ggX6_setTools_X6_out : GoodIn wsX6_setTools wsX6_out := goodIn_r _ [12, 13, 14, 15, 21, 22, 23, 24, 25, 26, 27, 28, 29, 30, 31, 32, 33, 34, 35, 36, 37, 38, 39, 40, 41, 42, 43, 44, 45, 46, 47, 48] (by decide +kernel) (by decide +kernel)
set_option maxRecDepth 20000 in
theorem gX6_setTools_X6_out : GoodIn wsX6_setTools (wsV RX6 128 RX6 yX6_out wsX6_out) := goodIn_app (goodIn_of _ (by decide +kernel)) ggX6_setTools_X6_out
set_option maxRecDepth 20000 in
theorem ggX6_setTools_X6_fails : GoodIn wsX6_setTools wsX6_fails := goodIn_r _ [19, 20, 21, 22, 23, 24, 25, 26, 27, 28, 29, 30, 31, 32, 33, 34, 35, 36, 37, 38, 39, 40, 41, 42, 43, 44, 45, 46, 47, 48] (by decide +kernel) (by decide +kernel)
set_option maxRecDepth 20000 in
theorem gX6_setTools_X6_fails : GoodIn wsX6_setTools (wsV RX6 97 RX6 yX6_fails wsX6_fails) := goodIn_app (goodIn_of _ (by decide +kernel)) ggX6_setTools_X6_fails
theorem dX6_setTools_0 : decode cX6_setTools 0 = .ok (.aload_n 0, 1) := by decide +kernel
theorem dX6_setTools_1 : decode cX6_setTools 1 = .ok (.iload_n 1, 1) := by decide +kernel
theorem dX6_setTools_2 : decode cX6_setTools 2 = .ok (.invokestatic 125, 3) := by decide +kernel
theorem dX6_setTools_5 : decode cX6_setTools 5 = .ok (.ifCond .ne 7, 3) := by decide +kernel
theorem dX6_setTools_8 : decode cX6_setTools 8 = .ok (.iconst 1, 1) := by decide +kernel
theorem dX6_setTools_9 : decode cX6_setTools 9 = .ok (.goto 31, 3) := by decide +kernel
theorem dX6_setTools_12 : decode cX6_setTools 12 = .ok (.iload_n 2, 1) := by decide +kernel
theorem dX6_setTools_13 : decode cX6_setTools 13 = .ok (.iconst 0, 1) := by decide +kernel
theorem dX6_setTools_14 : decode cX6_setTools 14 = .ok (.bipush 20, 2) := by decide +kernel
theorem dX6_setTools_16 : decode cX6_setTools 16 = .ok (.invokestatic 90, 3) := by decide +kernel
theorem dX6_setTools_19 : decode cX6_setTools 19 = .ok (.ifCond .ne 7, 3) := by decide +kernel
theorem dX6_setTools_22 : decode cX6_setTools 22 = .ok (.iconst 2, 1) := by decide +kernel
theorem dX6_setTools_23 : decode cX6_setTools 23 = .ok (.goto 17, 3) := by decide +kernel
theorem dX6_setTools_26 : decode cX6_setTools 26 = .ok (.aload_n 0, 1) := by decide +kernel
theorem dX6_setTools_27 : decode cX6_setTools 27 = .ok (.iload_n 1, 1) := by decide +kernel
theorem dX6_setTools_28 : decode cX6_setTools 28 = .ok (.invokevirtual 128, 3) := by decide +kernel
theorem dX6_setTools_31 : decode cX6_setTools 31 = .ok (.iload_n 2, 1) := by decide +kernel
theorem dX6_setTools_32 : decode cX6_setTools 32 = .ok (.if_icmp .le 7, 3) := by decide +kernel
theorem dX6_setTools_35 : decode cX6_setTools 35 = .ok (.iconst 3, 1) := by decide +kernel
theorem dX6_setTools_36 : decode cX6_setTools 36 = .ok (.goto 4, 3) := by decide +kernel
theorem dX6_setTools_39 : decode cX6_setTools 39 = .ok (.iconst 0, 1) := by decide +kernel
theorem dX6_setTools_40 : decode cX6_setTools 40 = .ok (.invokevirtual 97, 3) := by decide +kernel
theorem dX6_setTools_43 : decode cX6_setTools 43 = .ok (.ifCond .eq 5, 3) := by decide +kernel
theorem dX6_setTools_46 : decode cX6_setTools 46 = .ok (.iconst 0, 1) := by decide +kernel
theorem dX6_setTools_47 : decode cX6_setTools 47 = .ok (.ireturn, 1) := by decide +kernel
theorem dX6_setTools_48 : decode cX6_setTools 48 = .ok (.aload_n 0, 1) := by decide +kernel
theorem dX6_setTools_49 : decode cX6_setTools 49 = .ok (.getfield 68, 3) := by decide +kernel
theorem dX6_setTools_52 : decode cX6_setTools 52 = .ok (.iload_n 1, 1) := by decide +kernel
theorem dX6_setTools_53 : decode cX6_setTools 53 = .ok (.iaload, 1) := by decide +kernel
theorem dX6_setTools_54 : decode cX6_setTools 54 = .ok (.istore_n 3, 1) := by decide +kernel
theorem dX6_setTools_55 : decode cX6_setTools 55 = .ok (.aload_n 0, 1) := by decide +kernel
theorem dX6_setTools_56 : decode cX6_setTools 56 = .ok (.getfield 68, 3) := by decide +kernel
theorem dX6_setTools_59 : decode cX6_setTools 59 = .ok (.iload_n 1, 1) := by decide +kernel
theorem dX6_setTools_60 : decode cX6_setTools 60 = .ok (.iload_n 2, 1) := by decide +kernel
theorem dX6_setTools_61 : decode cX6_setTools 61 = .ok (.iastore, 1) := by decide +kernel
theorem dX6_setTools_62 : decode cX6_setTools 62 = .ok (.iload_n 3, 1) := by decide +kernel
theorem dX6_setTools_63 : decode cX6_setTools 63 = .ok (.ireturn, 1) := by decide +kernel
set_option maxRecDepth 20000 in
theorem ggX6_toolsOut_X6_isKind : GoodIn wsX6_toolsOut wsX6_isKind := goodIn_r _ [4, 5, 6, 3, 7] (by decide +kernel) (by decide +kernel)
set_option maxRecDepth 20000 in
theorem gX6_toolsOut_X6_isKind : GoodIn wsX6_toolsOut (va_wsS RX6 125 yX6_isKind wsX6_isKind) := goodIn_app (goodIn_of _ (by decide +kernel)) ggX6_toolsOut_X6_isKind
set_option maxRecDepth 20000 in
theorem ggX6_toolsOut_X6_fails : GoodIn wsX6_toolsOut wsX6_fails := goodIn_r _ [11, 12, 20, 21, 22, 23, 24, 25, 26, 27, 28, 29, 30, 31, 32, 33, 34, 35, 36, 37, 38, 39, 40, 41, 42, 43, 44, 45, 46, 47] (by decide +kernel) (by decide +kernel)
set_option maxRecDepth 20000 in
theorem gX6_toolsOut_X6_fails : GoodIn wsX6_toolsOut (wsV RX6 97 RX6 yX6_fails wsX6_fails) := goodIn_app (goodIn_of _ (by decide +kernel)) ggX6_toolsOut_X6_fails
set_option maxRecDepth 20000 in
theorem ggX6_toolsOut_X6_out : GoodIn wsX6_toolsOut wsX6_out := goodIn_r _ [16, 17, 18, 19, 20, 21, 22, 23, 24, 25, 26, 27, 28, 29, 30, 31, 32, 33, 34, 35, 36, 37, 38, 39, 40, 41, 42, 43, 44, 45, 46, 47] (by decide +kernel) (by decide +kernel)
set_option maxRecDepth 20000 in
theorem gX6_toolsOut_X6_out : GoodIn wsX6_toolsOut (wsV RX6 128 RX6 yX6_out wsX6_out) := goodIn_app (goodIn_of _ (by decide +kernel)) ggX6_toolsOut_X6_out
theorem dX6_toolsOut_0 : decode cX6_toolsOut 0 = .ok (.aload_n 0, 1) := by decide +kernel
theorem dX6_toolsOut_1 : decode cX6_toolsOut 1 = .ok (.iload_n 1, 1) := by decide +kernel
theorem dX6_toolsOut_2 : decode cX6_toolsOut 2 = .ok (.invokestatic 125, 3) := by decide +kernel
theorem dX6_toolsOut_5 : decode cX6_toolsOut 5 = .ok (.ifCond .eq 7, 3) := by decide +kernel
theorem dX6_toolsOut_8 : decode cX6_toolsOut 8 = .ok (.iconst 0, 1) := by decide +kernel
theorem dX6_toolsOut_9 : decode cX6_toolsOut 9 = .ok (.goto 4, 3) := by decide +kernel
theorem dX6_toolsOut_12 : decode cX6_toolsOut 12 = .ok (.iconst 1, 1) := by decide +kernel
theorem dX6_toolsOut_13 : decode cX6_toolsOut 13 = .ok (.invokevirtual 97, 3) := by decide +kernel
theorem dX6_toolsOut_16 : decode cX6_toolsOut 16 = .ok (.ifCond .eq 7, 3) := by decide +kernel
theorem dX6_toolsOut_19 : decode cX6_toolsOut 19 = .ok (.iconst 0, 1) := by decide +kernel
theorem dX6_toolsOut_20 : decode cX6_toolsOut 20 = .ok (.goto 8, 3) := by decide +kernel
theorem dX6_toolsOut_23 : decode cX6_toolsOut 23 = .ok (.aload_n 0, 1) := by decide +kernel
theorem dX6_toolsOut_24 : decode cX6_toolsOut 24 = .ok (.iload_n 1, 1) := by decide +kernel
theorem dX6_toolsOut_25 : decode cX6_toolsOut 25 = .ok (.invokevirtual 128, 3) := by decide +kernel
theorem dX6_toolsOut_28 : decode cX6_toolsOut 28 = .ok (.ireturn, 1) := by decide +kernel
set_option maxRecDepth 20000 in
theorem ggX6_addOrder_X6_lies : GoodIn wsX6_addOrder wsX6_lies := goodIn_r _ [9] (by decide +kernel) (by decide +kernel)
set_option maxRecDepth 20000 in
theorem gX6_addOrder_X6_lies : GoodIn wsX6_addOrder (va_wsS RX6 90 yX6_lies wsX6_lies) := goodIn_app (goodIn_of _ (by decide +kernel)) ggX6_addOrder_X6_lies
set_option maxRecDepth 20000 in
theorem ggX6_addOrder_X6_isKind : GoodIn wsX6_addOrder wsX6_isKind := goodIn_r _ [12, 6, 7, 8, 9] (by decide +kernel) (by decide +kernel)
set_option maxRecDepth 20000 in
theorem gX6_addOrder_X6_isKind : GoodIn wsX6_addOrder (va_wsS RX6 125 yX6_isKind wsX6_isKind) := goodIn_app (goodIn_of _ (by decide +kernel)) ggX6_addOrder_X6_isKind
set_option maxRecDepth 20000 in
theorem ggX6_addOrder_X6_fails : GoodIn wsX6_addOrder wsX6_fails := goodIn_r _ [16, 17, 18, 19, 20, 21, 22, 23, 24, 25, 26, 27, 28, 29, 30, 31, 32, 33, 34, 35, 36, 37, 38, 39, 40, 41, 42, 43, 44, 45] (by decide +kernel) (by decide +kernel)
set_option maxRecDepth 20000 in
theorem gX6_addOrder_X6_fails : GoodIn wsX6_addOrder (wsV RX6 97 RX6 yX6_fails wsX6_fails) := goodIn_app (goodIn_of _ (by decide +kernel)) ggX6_addOrder_X6_fails
theorem dX6_addOrder_0 : decode cX6_addOrder 0 = .ok (.iload_n 1, 1) := by decide +kernel
theorem dX6_addOrder_1 : decode cX6_addOrder 1 = .ok (.iconst 0, 1) := by decide +kernel
theorem dX6_addOrder_2 : decode cX6_addOrder 2 = .ok (.iconst 3, 1) := by decide +kernel
theorem dX6_addOrder_3 : decode cX6_addOrder 3 = .ok (.invokestatic 90, 3) := by decide +kernel
theorem dX6_addOrder_6 : decode cX6_addOrder 6 = .ok (.ifCond .eq 14, 3) := by decide +kernel
theorem dX6_addOrder_9 : decode cX6_addOrder 9 = .ok (.iload_n 2, 1) := by decide +kernel
theorem dX6_addOrder_10 : decode cX6_addOrder 10 = .ok (.invokestatic 125, 3) := by decide +kernel
theorem dX6_addOrder_13 : decode cX6_addOrder 13 = .ok (.ifCond .eq 7, 3) := by decide +kernel
theorem dX6_addOrder_16 : decode cX6_addOrder 16 = .ok (.iconst 1, 1) := by decide +kernel
theorem dX6_addOrder_17 : decode cX6_addOrder 17 = .ok (.goto 4, 3) := by decide +kernel
theorem dX6_addOrder_20 : decode cX6_addOrder 20 = .ok (.iconst 0, 1) := by decide +kernel
theorem dX6_addOrder_21 : decode cX6_addOrder 21 = .ok (.istore 5, 2) := by decide +kernel
theorem dX6_addOrder_23 : decode cX6_addOrder 23 = .ok (.iload_n 3, 1) := by decide +kernel
theorem dX6_addOrder_24 : decode cX6_addOrder 24 = .ok (.iconst 1, 1) := by decide +kernel
theorem dX6_addOrder_25 : decode cX6_addOrder 25 = .ok (.sipush 500, 3) := by decide +kernel
theorem dX6_addOrder_28 : decode cX6_addOrder 28 = .ok (.invokestatic 90, 3) := by decide +kernel
theorem dX6_addOrder_31 : decode cX6_addOrder 31 = .ok (.ifCond .eq 19, 3) := by decide +kernel
theorem dX6_addOrder_34 : decode cX6_addOrder 34 = .ok (.iload 4, 2) := by decide +kernel
theorem dX6_addOrder_36 : decode cX6_addOrder 36 = .ok (.iconst 0, 1) := by decide +kernel
theorem dX6_addOrder_37 : decode cX6_addOrder 37 = .ok (.sipush 1000, 3) := by decide +kernel
theorem dX6_addOrder_40 : decode cX6_addOrder 40 = .ok (.invokestatic 90, 3) := by decide +kernel
theorem dX6_addOrder_43 : decode cX6_addOrder 43 = .ok (.ifCond .eq 7, 3) := by decide +kernel
theorem dX6_addOrder_46 : decode cX6_addOrder 46 = .ok (.iconst 1, 1) := by decide +kernel
theorem dX6_addOrder_47 : decode cX6_addOrder 47 = .ok (.goto 4, 3) := by decide +kernel
theorem dX6_addOrder_50 : decode cX6_addOrder 50 = .ok (.iconst 0, 1) := by decide +kernel
theorem dX6_addOrder_51 : decode cX6_addOrder 51 = .ok (.istore 6, 2) := by decide +kernel
theorem dX6_addOrder_53 : decode cX6_addOrder 53 = .ok (.aload_n 0, 1) := by decide +kernel
theorem dX6_addOrder_54 : decode cX6_addOrder 54 = .ok (.iload 5, 2) := by decide +kernel
theorem dX6_addOrder_56 : decode cX6_addOrder 56 = .ok (.ifCond .ne 7, 3) := by decide +kernel
theorem dX6_addOrder_59 : decode cX6_addOrder 59 = .ok (.iconst 1, 1) := by decide +kernel
theorem dX6_addOrder_60 : decode cX6_addOrder 60 = .ok (.goto 26, 3) := by decide +kernel
theorem dX6_addOrder_63 : decode cX6_addOrder 63 = .ok (.iload 6, 2) := by decide +kernel
theorem dX6_addOrder_65 : decode cX6_addOrder 65 = .ok (.ifCond .ne 7, 3) := by decide +kernel
theorem dX6_addOrder_68 : decode cX6_addOrder 68 = .ok (.iconst 2, 1) := by decide +kernel
theorem dX6_addOrder_69 : decode cX6_addOrder 69 = .ok (.goto 17, 3) := by decide +kernel
theorem dX6_addOrder_72 : decode cX6_addOrder 72 = .ok (.aload_n 0, 1) := by decide +kernel
theorem dX6_addOrder_73 : decode cX6_addOrder 73 = .ok (.getfield 94, 3) := by decide +kernel
theorem dX6_addOrder_76 : decode cX6_addOrder 76 = .ok (.bipush 8, 2) := by decide +kernel
theorem dX6_addOrder_78 : decode cX6_addOrder 78 = .ok (.if_icmp .ne 7, 3) := by decide +kernel
theorem dX6_addOrder_81 : decode cX6_addOrder 81 = .ok (.iconst 3, 1) := by decide +kernel
theorem dX6_addOrder_82 : decode cX6_addOrder 82 = .ok (.goto 4, 3) := by decide +kernel
theorem dX6_addOrder_85 : decode cX6_addOrder 85 = .ok (.iconst 0, 1) := by decide +kernel
theorem dX6_addOrder_86 : decode cX6_addOrder 86 = .ok (.invokevirtual 97, 3) := by decide +kernel
theorem dX6_addOrder_89 : decode cX6_addOrder 89 = .ok (.ifCond .eq 5, 3) := by decide +kernel
theorem dX6_addOrder_92 : decode cX6_addOrder 92 = .ok (.iconst 0, 1) := by decide +kernel
theorem dX6_addOrder_93 : decode cX6_addOrder 93 = .ok (.ireturn, 1) := by decide +kernel
theorem dX6_addOrder_94 : decode cX6_addOrder 94 = .ok (.aload_n 0, 1) := by decide +kernel
theorem dX6_addOrder_95 : decode cX6_addOrder 95 = .ok (.getfield 71, 3) := by decide +kernel
theorem dX6_addOrder_98 : decode cX6_addOrder 98 = .ok (.aload_n 0, 1) := by decide +kernel
theorem dX6_addOrder_99 : decode cX6_addOrder 99 = .ok (.getfield 94, 3) := by decide +kernel
theorem dX6_addOrder_102 : decode cX6_addOrder 102 = .ok (.iload_n 1, 1) := by decide +kernel
theorem dX6_addOrder_103 : decode cX6_addOrder 103 = .ok (.iastore, 1) := by decide +kernel
theorem dX6_addOrder_104 : decode cX6_addOrder 104 = .ok (.aload_n 0, 1) := by decide +kernel
theorem dX6_addOrder_105 : decode cX6_addOrder 105 = .ok (.getfield 74, 3) := by decide +kernel
theorem dX6_addOrder_108 : decode cX6_addOrder 108 = .ok (.aload_n 0, 1) := by decide +kernel
theorem dX6_addOrder_109 : decode cX6_addOrder 109 = .ok (.getfield 94, 3) := by decide +kernel
theorem dX6_addOrder_112 : decode cX6_addOrder 112 = .ok (.iload_n 2, 1) := by decide +kernel
theorem dX6_addOrder_113 : decode cX6_addOrder 113 = .ok (.iastore, 1) := by decide +kernel
theorem dX6_addOrder_114 : decode cX6_addOrder 114 = .ok (.aload_n 0, 1) := by decide +kernel
theorem dX6_addOrder_115 : decode cX6_addOrder 115 = .ok (.getfield 77, 3) := by decide +kernel
theorem dX6_addOrder_118 : decode cX6_addOrder 118 = .ok (.aload_n 0, 1) := by decide +kernel
theorem dX6_addOrder_119 : decode cX6_addOrder 119 = .ok (.getfield 94, 3) := by decide +kernel
theorem dX6_addOrder_122 : decode cX6_addOrder 122 = .ok (.iload_n 3, 1) := by decide +kernel
theorem dX6_addOrder_123 : decode cX6_addOrder 123 = .ok (.iastore, 1) := by decide +kernel
theorem dX6_addOrder_124 : decode cX6_addOrder 124 = .ok (.aload_n 0, 1) := by decide +kernel
theorem dX6_addOrder_125 : decode cX6_addOrder 125 = .ok (.getfield 80, 3) := by decide +kernel
theorem dX6_addOrder_128 : decode cX6_addOrder 128 = .ok (.aload_n 0, 1) := by decide +kernel
theorem dX6_addOrder_129 : decode cX6_addOrder 129 = .ok (.getfield 94, 3) := by decide +kernel
theorem dX6_addOrder_132 : decode cX6_addOrder 132 = .ok (.iload 4, 2) := by decide +kernel
theorem dX6_addOrder_134 : decode cX6_addOrder 134 = .ok (.iastore, 1) := by decide +kernel
theorem dX6_addOrder_135 : decode cX6_addOrder 135 = .ok (.aload_n 0, 1) := by decide +kernel
theorem dX6_addOrder_136 : decode cX6_addOrder 136 = .ok (.dup, 1) := by decide +kernel
theorem dX6_addOrder_137 : decode cX6_addOrder 137 = .ok (.getfield 94, 3) := by decide +kernel
theorem dX6_addOrder_140 : decode cX6_addOrder 140 = .ok (.iconst 1, 1) := by decide +kernel
theorem dX6_addOrder_141 : decode cX6_addOrder 141 = .ok (.iadd, 1) := by decide +kernel
theorem dX6_addOrder_142 : decode cX6_addOrder 142 = .ok (.putfield 94, 3) := by decide +kernel
theorem dX6_addOrder_145 : decode cX6_addOrder 145 = .ok (.aload_n 0, 1) := by decide +kernel
theorem dX6_addOrder_146 : decode cX6_addOrder 146 = .ok (.getfield 94, 3) := by decide +kernel
theorem dX6_addOrder_149 : decode cX6_addOrder 149 = .ok (.iconst 1, 1) := by decide +kernel
theorem dX6_addOrder_150 : decode cX6_addOrder 150 = .ok (.isub, 1) := by decide +kernel
theorem dX6_addOrder_151 : decode cX6_addOrder 151 = .ok (.ireturn, 1) := by decide +kernel
set_option maxRecDepth 20000 in
theorem ggX6_assign_X6_isPerson : GoodIn wsX6_assign wsX6_isPerson := goodIn_r _ [13, 8, 14, 15, 12, 16, 31, 32, 33, 34, 35, 36, 37, 38, 39, 40, 41, 42, 43, 44, 45, 46, 47, 48, 49, 50, 51, 52, 53, 54, 55, 56, 57, 58] (by decide +kernel) (by decide +kernel)
set_option maxRecDepth 20000 in
theorem gX6_assign_X6_isPerson : GoodIn wsX6_assign (wsV RX6 111 RX6 yX6_isPerson wsX6_isPerson) := goodIn_app (goodIn_of _ (by decide +kernel)) ggX6_assign_X6_isPerson
set_option maxRecDepth 20000 in
theorem ggX6_assign_X6_isOrder : GoodIn wsX6_assign wsX6_isOrder := goodIn_r _ [20, 21, 14, 15, 12, 16, 31, 32, 33, 34, 35, 36, 37, 38, 39, 40, 41, 42, 43, 44, 45, 46, 47, 48, 49, 50, 51, 52, 53, 54, 55, 56, 57, 58] (by decide +kernel) (by decide +kernel)
set_option maxRecDepth 20000 in
theorem gX6_assign_X6_isOrder : GoodIn wsX6_assign (wsV RX6 131 RX6 yX6_isOrder wsX6_isOrder) := goodIn_app (goodIn_of _ (by decide +kernel)) ggX6_assign_X6_isOrder
set_option maxRecDepth 20000 in
theorem ggX6_assign_X6_out : GoodIn wsX6_assign wsX6_out := goodIn_r _ [25, 8, 2, 6, 31, 32, 33, 34, 35, 36, 37, 38, 39, 40, 41, 42, 43, 44, 45, 46, 47, 48, 49, 50, 51, 52, 53, 54, 55, 56, 57, 58] (by decide +kernel) (by decide +kernel)
set_option maxRecDepth 20000 in
theorem gX6_assign_X6_out : GoodIn wsX6_assign (wsV RX6 128 RX6 yX6_out wsX6_out) := goodIn_app (goodIn_of _ (by decide +kernel)) ggX6_assign_X6_out
set_option maxRecDepth 20000 in
theorem ggX6_assign_X6_fails : GoodIn wsX6_assign wsX6_fails := goodIn_r _ [29, 30, 31, 32, 33, 34, 35, 36, 37, 38, 39, 40, 41, 42, 43, 44, 45, 46, 47, 48, 49, 50, 51, 52, 53, 54, 55, 56, 57, 58] (by decide +kernel) (by decide +kernel)
set_option maxRecDepth 20000 in
theorem gX6_assign_X6_fails : GoodIn wsX6_assign (wsV RX6 97 RX6 yX6_fails wsX6_fails) := goodIn_app (goodIn_of _ (by decide +kernel)) ggX6_assign_X6_fails
theorem dX6_assign_0 : decode cX6_assign 0 = .ok (.aload_n 0, 1) := by decide +kernel
theorem dX6_assign_1 : decode cX6_assign 1 = .ok (.iload_n 1, 1) := by decide +kernel
theorem dX6_assign_2 : decode cX6_assign 2 = .ok (.invokevirtual 111, 3) := by decide +kernel
theorem dX6_assign_5 : decode cX6_assign 5 = .ok (.ifCond .eq 15, 3) := by decide +kernel
theorem dX6_assign_8 : decode cX6_assign 8 = .ok (.aload_n 0, 1) := by decide +kernel
theorem dX6_assign_9 : decode cX6_assign 9 = .ok (.iload_n 2, 1) := by decide +kernel
theorem dX6_assign_10 : decode cX6_assign 10 = .ok (.invokevirtual 131, 3) := by decide +kernel
theorem dX6_assign_13 : decode cX6_assign 13 = .ok (.ifCond .eq 7, 3) := by decide +kernel
theorem dX6_assign_16 : decode cX6_assign 16 = .ok (.iconst 1, 1) := by decide +kernel
theorem dX6_assign_17 : decode cX6_assign 17 = .ok (.goto 4, 3) := by decide +kernel
theorem dX6_assign_20 : decode cX6_assign 20 = .ok (.iconst 0, 1) := by decide +kernel
theorem dX6_assign_21 : decode cX6_assign 21 = .ok (.istore_n 3, 1) := by decide +kernel
theorem dX6_assign_22 : decode cX6_assign 22 = .ok (.iload_n 3, 1) := by decide +kernel
theorem dX6_assign_23 : decode cX6_assign 23 = .ok (.ifCond .eq 78, 3) := by decide +kernel
theorem dX6_assign_26 : decode cX6_assign 26 = .ok (.aload_n 0, 1) := by decide +kernel
theorem dX6_assign_27 : decode cX6_assign 27 = .ok (.getfield 7, 3) := by decide +kernel
theorem dX6_assign_30 : decode cX6_assign 30 = .ok (.iload_n 1, 1) := by decide +kernel
theorem dX6_assign_31 : decode cX6_assign 31 = .ok (.baload, 1) := by decide +kernel
theorem dX6_assign_32 : decode cX6_assign 32 = .ok (.ifCond .ne 69, 3) := by decide +kernel
theorem dX6_assign_35 : decode cX6_assign 35 = .ok (.aload_n 0, 1) := by decide +kernel
theorem dX6_assign_36 : decode cX6_assign 36 = .ok (.getfield 38, 3) := by decide +kernel
theorem dX6_assign_39 : decode cX6_assign 39 = .ok (.iload_n 1, 1) := by decide +kernel
theorem dX6_assign_40 : decode cX6_assign 40 = .ok (.iaload, 1) := by decide +kernel
theorem dX6_assign_41 : decode cX6_assign 41 = .ok (.iconst (-1), 1) := by decide +kernel
theorem dX6_assign_42 : decode cX6_assign 42 = .ok (.if_icmp .ne 59, 3) := by decide +kernel
theorem dX6_assign_45 : decode cX6_assign 45 = .ok (.aload_n 0, 1) := by decide +kernel
theorem dX6_assign_46 : decode cX6_assign 46 = .ok (.getfield 20, 3) := by decide +kernel
theorem dX6_assign_49 : decode cX6_assign 49 = .ok (.iload_n 1, 1) := by decide +kernel
theorem dX6_assign_50 : decode cX6_assign 50 = .ok (.iaload, 1) := by decide +kernel
theorem dX6_assign_51 : decode cX6_assign 51 = .ok (.aload_n 0, 1) := by decide +kernel
theorem dX6_assign_52 : decode cX6_assign 52 = .ok (.getfield 71, 3) := by decide +kernel
theorem dX6_assign_55 : decode cX6_assign 55 = .ok (.iload_n 2, 1) := by decide +kernel
theorem dX6_assign_56 : decode cX6_assign 56 = .ok (.iaload, 1) := by decide +kernel
theorem dX6_assign_57 : decode cX6_assign 57 = .ok (.ishr, 1) := by decide +kernel
theorem dX6_assign_58 : decode cX6_assign 58 = .ok (.iconst 1, 1) := by decide +kernel
theorem dX6_assign_59 : decode cX6_assign 59 = .ok (.iand, 1) := by decide +kernel
theorem dX6_assign_60 : decode cX6_assign 60 = .ok (.iconst 1, 1) := by decide +kernel
theorem dX6_assign_61 : decode cX6_assign 61 = .ok (.if_icmp .ne 40, 3) := by decide +kernel
theorem dX6_assign_64 : decode cX6_assign 64 = .ok (.aload_n 0, 1) := by decide +kernel
theorem dX6_assign_65 : decode cX6_assign 65 = .ok (.getfield 77, 3) := by decide +kernel
theorem dX6_assign_68 : decode cX6_assign 68 = .ok (.iload_n 2, 1) := by decide +kernel
theorem dX6_assign_69 : decode cX6_assign 69 = .ok (.iaload, 1) := by decide +kernel
theorem dX6_assign_70 : decode cX6_assign 70 = .ok (.ifCond .le 31, 3) := by decide +kernel
theorem dX6_assign_73 : decode cX6_assign 73 = .ok (.aload_n 0, 1) := by decide +kernel
theorem dX6_assign_74 : decode cX6_assign 74 = .ok (.aload_n 0, 1) := by decide +kernel
theorem dX6_assign_75 : decode cX6_assign 75 = .ok (.getfield 74, 3) := by decide +kernel
theorem dX6_assign_78 : decode cX6_assign 78 = .ok (.iload_n 2, 1) := by decide +kernel
theorem dX6_assign_79 : decode cX6_assign 79 = .ok (.iaload, 1) := by decide +kernel
theorem dX6_assign_80 : decode cX6_assign 80 = .ok (.invokevirtual 128, 3) := by decide +kernel
theorem dX6_assign_83 : decode cX6_assign 83 = .ok (.aload_n 0, 1) := by decide +kernel
theorem dX6_assign_84 : decode cX6_assign 84 = .ok (.getfield 68, 3) := by decide +kernel
theorem dX6_assign_87 : decode cX6_assign 87 = .ok (.aload_n 0, 1) := by decide +kernel
theorem dX6_assign_88 : decode cX6_assign 88 = .ok (.getfield 74, 3) := by decide +kernel
theorem dX6_assign_91 : decode cX6_assign 91 = .ok (.iload_n 2, 1) := by decide +kernel
theorem dX6_assign_92 : decode cX6_assign 92 = .ok (.iaload, 1) := by decide +kernel
theorem dX6_assign_93 : decode cX6_assign 93 = .ok (.iaload, 1) := by decide +kernel
theorem dX6_assign_94 : decode cX6_assign 94 = .ok (.if_icmp .ge 7, 3) := by decide +kernel
theorem dX6_assign_97 : decode cX6_assign 97 = .ok (.iconst 1, 1) := by decide +kernel
theorem dX6_assign_98 : decode cX6_assign 98 = .ok (.goto 4, 3) := by decide +kernel
theorem dX6_assign_101 : decode cX6_assign 101 = .ok (.iconst 0, 1) := by decide +kernel
theorem dX6_assign_102 : decode cX6_assign 102 = .ok (.istore 4, 2) := by decide +kernel
theorem dX6_assign_104 : decode cX6_assign 104 = .ok (.aload_n 0, 1) := by decide +kernel
theorem dX6_assign_105 : decode cX6_assign 105 = .ok (.iload_n 3, 1) := by decide +kernel
theorem dX6_assign_106 : decode cX6_assign 106 = .ok (.ifCond .ne 7, 3) := by decide +kernel
theorem dX6_assign_109 : decode cX6_assign 109 = .ok (.iconst 1, 1) := by decide +kernel
theorem dX6_assign_110 : decode cX6_assign 110 = .ok (.goto 13, 3) := by decide +kernel
theorem dX6_assign_113 : decode cX6_assign 113 = .ok (.iload 4, 2) := by decide +kernel
theorem dX6_assign_115 : decode cX6_assign 115 = .ok (.ifCond .eq 7, 3) := by decide +kernel
theorem dX6_assign_118 : decode cX6_assign 118 = .ok (.iconst 0, 1) := by decide +kernel
theorem dX6_assign_119 : decode cX6_assign 119 = .ok (.goto 4, 3) := by decide +kernel
theorem dX6_assign_122 : decode cX6_assign 122 = .ok (.iconst 2, 1) := by decide +kernel
theorem dX6_assign_123 : decode cX6_assign 123 = .ok (.invokevirtual 97, 3) := by decide +kernel
theorem dX6_assign_126 : decode cX6_assign 126 = .ok (.ifCond .eq 5, 3) := by decide +kernel
theorem dX6_assign_129 : decode cX6_assign 129 = .ok (.iconst 0, 1) := by decide +kernel
theorem dX6_assign_130 : decode cX6_assign 130 = .ok (.ireturn, 1) := by decide +kernel
theorem dX6_assign_131 : decode cX6_assign 131 = .ok (.aload_n 0, 1) := by decide +kernel
theorem dX6_assign_132 : decode cX6_assign 132 = .ok (.getfield 38, 3) := by decide +kernel
theorem dX6_assign_135 : decode cX6_assign 135 = .ok (.iload_n 1, 1) := by decide +kernel
theorem dX6_assign_136 : decode cX6_assign 136 = .ok (.iload_n 2, 1) := by decide +kernel
theorem dX6_assign_137 : decode cX6_assign 137 = .ok (.iastore, 1) := by decide +kernel
theorem dX6_assign_138 : decode cX6_assign 138 = .ok (.iconst 0, 1) := by decide +kernel
theorem dX6_assign_139 : decode cX6_assign 139 = .ok (.istore 5, 2) := by decide +kernel
theorem dX6_assign_141 : decode cX6_assign 141 = .ok (.iconst 0, 1) := by decide +kernel
theorem dX6_assign_142 : decode cX6_assign 142 = .ok (.istore 6, 2) := by decide +kernel
theorem dX6_assign_144 : decode cX6_assign 144 = .ok (.iload 6, 2) := by decide +kernel
theorem dX6_assign_146 : decode cX6_assign 146 = .ok (.aload_n 0, 1) := by decide +kernel
theorem dX6_assign_147 : decode cX6_assign 147 = .ok (.getfield 87, 3) := by decide +kernel
theorem dX6_assign_150 : decode cX6_assign 150 = .ok (.if_icmp .ge 30, 3) := by decide +kernel
theorem dX6_assign_153 : decode cX6_assign 153 = .ok (.iload 5, 2) := by decide +kernel
theorem dX6_assign_155 : decode cX6_assign 155 = .ok (.aload_n 0, 1) := by decide +kernel
theorem dX6_assign_156 : decode cX6_assign 156 = .ok (.getfield 38, 3) := by decide +kernel
theorem dX6_assign_159 : decode cX6_assign 159 = .ok (.iload 6, 2) := by decide +kernel
theorem dX6_assign_161 : decode cX6_assign 161 = .ok (.iaload, 1) := by decide +kernel
theorem dX6_assign_162 : decode cX6_assign 162 = .ok (.iload_n 2, 1) := by decide +kernel
theorem dX6_assign_163 : decode cX6_assign 163 = .ok (.if_icmp .ne 7, 3) := by decide +kernel
theorem dX6_assign_166 : decode cX6_assign 166 = .ok (.iconst 1, 1) := by decide +kernel
theorem dX6_assign_167 : decode cX6_assign 167 = .ok (.goto 4, 3) := by decide +kernel
theorem dX6_assign_170 : decode cX6_assign 170 = .ok (.iconst 0, 1) := by decide +kernel
theorem dX6_assign_171 : decode cX6_assign 171 = .ok (.iadd, 1) := by decide +kernel
theorem dX6_assign_172 : decode cX6_assign 172 = .ok (.istore 5, 2) := by decide +kernel
theorem dX6_assign_174 : decode cX6_assign 174 = .ok (.iinc 6 1, 3) := by decide +kernel
theorem dX6_assign_177 : decode cX6_assign 177 = .ok (.goto (-33), 3) := by decide +kernel
theorem dX6_assign_180 : decode cX6_assign 180 = .ok (.iload 5, 2) := by decide +kernel
theorem dX6_assign_182 : decode cX6_assign 182 = .ok (.ireturn, 1) := by decide +kernel
set_option maxRecDepth 20000 in
theorem ggX6_takeOff_X6_isPerson : GoodIn wsX6_takeOff wsX6_isPerson := goodIn_r _ [6, 7, 8, 9, 5, 10, 16, 17, 18, 19, 20, 21, 22, 23, 24, 25, 26, 27, 28, 29, 30, 31, 32, 33, 34, 35, 36, 37, 38, 39, 40, 41, 42, 43] (by decide +kernel) (by decide +kernel)
set_option maxRecDepth 20000 in
theorem gX6_takeOff_X6_isPerson : GoodIn wsX6_takeOff (wsV RX6 111 RX6 yX6_isPerson wsX6_isPerson) := goodIn_app (goodIn_of _ (by decide +kernel)) ggX6_takeOff_X6_isPerson
set_option maxRecDepth 20000 in
theorem ggX6_takeOff_X6_fails : GoodIn wsX6_takeOff wsX6_fails := goodIn_r _ [14, 15, 16, 17, 18, 19, 20, 21, 22, 23, 24, 25, 26, 27, 28, 29, 30, 31, 32, 33, 34, 35, 36, 37, 38, 39, 40, 41, 42, 43] (by decide +kernel) (by decide +kernel)
set_option maxRecDepth 20000 in
theorem gX6_takeOff_X6_fails : GoodIn wsX6_takeOff (wsV RX6 97 RX6 yX6_fails wsX6_fails) := goodIn_app (goodIn_of _ (by decide +kernel)) ggX6_takeOff_X6_fails
theorem dX6_takeOff_0 : decode cX6_takeOff 0 = .ok (.aload_n 0, 1) := by decide +kernel
theorem dX6_takeOff_1 : decode cX6_takeOff 1 = .ok (.iload_n 1, 1) := by decide +kernel
theorem dX6_takeOff_2 : decode cX6_takeOff 2 = .ok (.invokevirtual 111, 3) := by decide +kernel
theorem dX6_takeOff_5 : decode cX6_takeOff 5 = .ok (.istore_n 2, 1) := by decide +kernel
theorem dX6_takeOff_6 : decode cX6_takeOff 6 = .ok (.aload_n 0, 1) := by decide +kernel
theorem dX6_takeOff_7 : decode cX6_takeOff 7 = .ok (.iload_n 2, 1) := by decide +kernel
theorem dX6_takeOff_8 : decode cX6_takeOff 8 = .ok (.ifCond .ne 7, 3) := by decide +kernel
theorem dX6_takeOff_11 : decode cX6_takeOff 11 = .ok (.iconst 1, 1) := by decide +kernel
theorem dX6_takeOff_12 : decode cX6_takeOff 12 = .ok (.goto 18, 3) := by decide +kernel
theorem dX6_takeOff_15 : decode cX6_takeOff 15 = .ok (.aload_n 0, 1) := by decide +kernel
theorem dX6_takeOff_16 : decode cX6_takeOff 16 = .ok (.getfield 38, 3) := by decide +kernel
theorem dX6_takeOff_19 : decode cX6_takeOff 19 = .ok (.iload_n 1, 1) := by decide +kernel
theorem dX6_takeOff_20 : decode cX6_takeOff 20 = .ok (.iaload, 1) := by decide +kernel
theorem dX6_takeOff_21 : decode cX6_takeOff 21 = .ok (.iconst (-1), 1) := by decide +kernel
theorem dX6_takeOff_22 : decode cX6_takeOff 22 = .ok (.if_icmp .ne 7, 3) := by decide +kernel
theorem dX6_takeOff_25 : decode cX6_takeOff 25 = .ok (.iconst 2, 1) := by decide +kernel
theorem dX6_takeOff_26 : decode cX6_takeOff 26 = .ok (.goto 4, 3) := by decide +kernel
theorem dX6_takeOff_29 : decode cX6_takeOff 29 = .ok (.iconst 0, 1) := by decide +kernel
theorem dX6_takeOff_30 : decode cX6_takeOff 30 = .ok (.invokevirtual 97, 3) := by decide +kernel
theorem dX6_takeOff_33 : decode cX6_takeOff 33 = .ok (.ifCond .eq 5, 3) := by decide +kernel
theorem dX6_takeOff_36 : decode cX6_takeOff 36 = .ok (.iconst 0, 1) := by decide +kernel
theorem dX6_takeOff_37 : decode cX6_takeOff 37 = .ok (.ireturn, 1) := by decide +kernel
theorem dX6_takeOff_38 : decode cX6_takeOff 38 = .ok (.aload_n 0, 1) := by decide +kernel
theorem dX6_takeOff_39 : decode cX6_takeOff 39 = .ok (.getfield 38, 3) := by decide +kernel
theorem dX6_takeOff_42 : decode cX6_takeOff 42 = .ok (.iload_n 1, 1) := by decide +kernel
theorem dX6_takeOff_43 : decode cX6_takeOff 43 = .ok (.iaload, 1) := by decide +kernel
theorem dX6_takeOff_44 : decode cX6_takeOff 44 = .ok (.istore_n 3, 1) := by decide +kernel
theorem dX6_takeOff_45 : decode cX6_takeOff 45 = .ok (.aload_n 0, 1) := by decide +kernel
theorem dX6_takeOff_46 : decode cX6_takeOff 46 = .ok (.getfield 38, 3) := by decide +kernel
theorem dX6_takeOff_49 : decode cX6_takeOff 49 = .ok (.iload_n 1, 1) := by decide +kernel
theorem dX6_takeOff_50 : decode cX6_takeOff 50 = .ok (.iconst (-1), 1) := by decide +kernel
theorem dX6_takeOff_51 : decode cX6_takeOff 51 = .ok (.iastore, 1) := by decide +kernel
theorem dX6_takeOff_52 : decode cX6_takeOff 52 = .ok (.iload_n 3, 1) := by decide +kernel
theorem dX6_takeOff_53 : decode cX6_takeOff 53 = .ok (.ireturn, 1) := by decide +kernel
set_option maxRecDepth 20000 in
theorem ggX6_orderOf_X6_of : GoodIn wsX6_orderOf wsX6_of := goodIn_r _ [6, 7, 8, 9, 5, 10, 11, 12, 13, 14, 15, 16, 17, 18, 19, 20, 21, 22, 23, 24, 25, 26, 27, 28, 29, 30, 31, 32, 33, 34, 35, 36, 37, 38, 39, 40, 41, 42, 43, 44, 45, 46, 47] (by decide +kernel) (by decide +kernel)
set_option maxRecDepth 20000 in
theorem gX6_orderOf_X6_of : GoodIn wsX6_orderOf (wsV RX6 121 RX6 yX6_of wsX6_of) := goodIn_app (goodIn_of _ (by decide +kernel)) ggX6_orderOf_X6_of
theorem dX6_orderOf_0 : decode cX6_orderOf 0 = .ok (.aload_n 0, 1) := by decide +kernel
theorem dX6_orderOf_1 : decode cX6_orderOf 1 = .ok (.aload_n 0, 1) := by decide +kernel
theorem dX6_orderOf_2 : decode cX6_orderOf 2 = .ok (.getfield 38, 3) := by decide +kernel
theorem dX6_orderOf_5 : decode cX6_orderOf 5 = .ok (.iload_n 1, 1) := by decide +kernel
theorem dX6_orderOf_6 : decode cX6_orderOf 6 = .ok (.invokevirtual 121, 3) := by decide +kernel
theorem dX6_orderOf_9 : decode cX6_orderOf 9 = .ok (.ireturn, 1) := by decide +kernel
set_option maxRecDepth 20000 in
theorem ggX6_left_X6_isOrder : GoodIn wsX6_left wsX6_isOrder := goodIn_r _ [6, 7, 8, 9, 5, 10, 16, 17, 18, 19, 20, 21, 22, 23, 24, 25, 26, 27, 28, 29, 30, 31, 32, 33, 34, 35, 36, 37, 38, 39, 40, 41, 42, 43] (by decide +kernel) (by decide +kernel)
set_option maxRecDepth 20000 in
theorem gX6_left_X6_isOrder : GoodIn wsX6_left (wsV RX6 131 RX6 yX6_isOrder wsX6_isOrder) := goodIn_app (goodIn_of _ (by decide +kernel)) ggX6_left_X6_isOrder
set_option maxRecDepth 20000 in
theorem ggX6_left_X6_fails : GoodIn wsX6_left wsX6_fails := goodIn_r _ [14, 15, 16, 17, 18, 19, 20, 21, 22, 23, 24, 25, 26, 27, 28, 29, 30, 31, 32, 33, 34, 35, 36, 37, 38, 39, 40, 41, 42, 43] (by decide +kernel) (by decide +kernel)
set_option maxRecDepth 20000 in
theorem gX6_left_X6_fails : GoodIn wsX6_left (wsV RX6 97 RX6 yX6_fails wsX6_fails) := goodIn_app (goodIn_of _ (by decide +kernel)) ggX6_left_X6_fails
theorem dX6_left_0 : decode cX6_left 0 = .ok (.aload_n 0, 1) := by decide +kernel
theorem dX6_left_1 : decode cX6_left 1 = .ok (.aload_n 0, 1) := by decide +kernel
theorem dX6_left_2 : decode cX6_left 2 = .ok (.iload_n 1, 1) := by decide +kernel
theorem dX6_left_3 : decode cX6_left 3 = .ok (.invokevirtual 131, 3) := by decide +kernel
theorem dX6_left_6 : decode cX6_left 6 = .ok (.ifCond .eq 7, 3) := by decide +kernel
theorem dX6_left_9 : decode cX6_left 9 = .ok (.iconst 0, 1) := by decide +kernel
theorem dX6_left_10 : decode cX6_left 10 = .ok (.goto 4, 3) := by decide +kernel
theorem dX6_left_13 : decode cX6_left 13 = .ok (.iconst 1, 1) := by decide +kernel
theorem dX6_left_14 : decode cX6_left 14 = .ok (.invokevirtual 97, 3) := by decide +kernel
theorem dX6_left_17 : decode cX6_left 17 = .ok (.ifCond .eq 7, 3) := by decide +kernel
theorem dX6_left_20 : decode cX6_left 20 = .ok (.iconst 0, 1) := by decide +kernel
theorem dX6_left_21 : decode cX6_left 21 = .ok (.goto 9, 3) := by decide +kernel
theorem dX6_left_24 : decode cX6_left 24 = .ok (.aload_n 0, 1) := by decide +kernel
theorem dX6_left_25 : decode cX6_left 25 = .ok (.getfield 77, 3) := by decide +kernel
theorem dX6_left_28 : decode cX6_left 28 = .ok (.iload_n 1, 1) := by decide +kernel
theorem dX6_left_29 : decode cX6_left 29 = .ok (.iaload, 1) := by decide +kernel
theorem dX6_left_30 : decode cX6_left 30 = .ok (.ireturn, 1) := by decide +kernel
set_option maxRecDepth 20000 in
theorem ggX6_account_X6_isPerson : GoodIn wsX6_account wsX6_isPerson := goodIn_r _ [6, 7, 8, 9, 5, 10, 16, 17, 18, 19, 20, 21, 22, 23, 24, 25, 26, 27, 28, 29, 30, 31, 32, 33, 34, 35, 36, 37, 38, 39, 40, 41, 42, 43] (by decide +kernel) (by decide +kernel)
set_option maxRecDepth 20000 in
theorem gX6_account_X6_isPerson : GoodIn wsX6_account (wsV RX6 111 RX6 yX6_isPerson wsX6_isPerson) := goodIn_app (goodIn_of _ (by decide +kernel)) ggX6_account_X6_isPerson
set_option maxRecDepth 20000 in
theorem ggX6_account_X6_lies : GoodIn wsX6_account wsX6_lies := goodIn_r _ [10] (by decide +kernel) (by decide +kernel)
set_option maxRecDepth 20000 in
theorem gX6_account_X6_lies : GoodIn wsX6_account (va_wsS RX6 90 yX6_lies wsX6_lies) := goodIn_app (goodIn_of _ (by decide +kernel)) ggX6_account_X6_lies
set_option maxRecDepth 20000 in
theorem ggX6_account_X6_fails : GoodIn wsX6_account wsX6_fails := goodIn_r _ [14, 15, 16, 17, 18, 19, 20, 21, 22, 23, 24, 25, 26, 27, 28, 29, 30, 31, 32, 33, 34, 35, 36, 37, 38, 39, 40, 41, 42, 43] (by decide +kernel) (by decide +kernel)
set_option maxRecDepth 20000 in
theorem gX6_account_X6_fails : GoodIn wsX6_account (wsV RX6 97 RX6 yX6_fails wsX6_fails) := goodIn_app (goodIn_of _ (by decide +kernel)) ggX6_account_X6_fails
theorem dX6_account_0 : decode cX6_account 0 = .ok (.aload_n 0, 1) := by decide +kernel
theorem dX6_account_1 : decode cX6_account 1 = .ok (.iload_n 1, 1) := by decide +kernel
theorem dX6_account_2 : decode cX6_account 2 = .ok (.invokevirtual 111, 3) := by decide +kernel
theorem dX6_account_5 : decode cX6_account 5 = .ok (.ifCond .eq 16, 3) := by decide +kernel
theorem dX6_account_8 : decode cX6_account 8 = .ok (.iload_n 2, 1) := by decide +kernel
theorem dX6_account_9 : decode cX6_account 9 = .ok (.iconst 0, 1) := by decide +kernel
theorem dX6_account_10 : decode cX6_account 10 = .ok (.iconst 3, 1) := by decide +kernel
theorem dX6_account_11 : decode cX6_account 11 = .ok (.invokestatic 90, 3) := by decide +kernel
theorem dX6_account_14 : decode cX6_account 14 = .ok (.ifCond .eq 7, 3) := by decide +kernel
theorem dX6_account_17 : decode cX6_account 17 = .ok (.iconst 1, 1) := by decide +kernel
theorem dX6_account_18 : decode cX6_account 18 = .ok (.goto 4, 3) := by decide +kernel
theorem dX6_account_21 : decode cX6_account 21 = .ok (.iconst 0, 1) := by decide +kernel
theorem dX6_account_22 : decode cX6_account 22 = .ok (.istore_n 3, 1) := by decide +kernel
theorem dX6_account_23 : decode cX6_account 23 = .ok (.aload_n 0, 1) := by decide +kernel
theorem dX6_account_24 : decode cX6_account 24 = .ok (.iload_n 3, 1) := by decide +kernel
theorem dX6_account_25 : decode cX6_account 25 = .ok (.ifCond .eq 7, 3) := by decide +kernel
theorem dX6_account_28 : decode cX6_account 28 = .ok (.iconst 0, 1) := by decide +kernel
theorem dX6_account_29 : decode cX6_account 29 = .ok (.goto 4, 3) := by decide +kernel
theorem dX6_account_32 : decode cX6_account 32 = .ok (.iconst 1, 1) := by decide +kernel
theorem dX6_account_33 : decode cX6_account 33 = .ok (.invokevirtual 97, 3) := by decide +kernel
theorem dX6_account_36 : decode cX6_account 36 = .ok (.ifCond .eq 7, 3) := by decide +kernel
theorem dX6_account_39 : decode cX6_account 39 = .ok (.iconst 0, 1) := by decide +kernel
theorem dX6_account_40 : decode cX6_account 40 = .ok (.goto 13, 3) := by decide +kernel
theorem dX6_account_43 : decode cX6_account 43 = .ok (.aload_n 0, 1) := by decide +kernel
theorem dX6_account_44 : decode cX6_account 44 = .ok (.getfield 47, 3) := by decide +kernel
theorem dX6_account_47 : decode cX6_account 47 = .ok (.iconst 4, 1) := by decide +kernel
theorem dX6_account_48 : decode cX6_account 48 = .ok (.iload_n 1, 1) := by decide +kernel
theorem dX6_account_49 : decode cX6_account 49 = .ok (.imul, 1) := by decide +kernel
theorem dX6_account_50 : decode cX6_account 50 = .ok (.iload_n 2, 1) := by decide +kernel
theorem dX6_account_51 : decode cX6_account 51 = .ok (.iadd, 1) := by decide +kernel
theorem dX6_account_52 : decode cX6_account 52 = .ok (.iaload, 1) := by decide +kernel
theorem dX6_account_53 : decode cX6_account 53 = .ok (.ireturn, 1) := by decide +kernel
theorem dX6_rest_0 : decode cX6_rest 0 = .ok (.bipush 20, 2) := by decide +kernel
theorem dX6_rest_2 : decode cX6_rest 2 = .ok (.aload_n 0, 1) := by decide +kernel
theorem dX6_rest_3 : decode cX6_rest 3 = .ok (.getfield 23, 3) := by decide +kernel
theorem dX6_rest_6 : decode cX6_rest 6 = .ok (.iload_n 1, 1) := by decide +kernel
theorem dX6_rest_7 : decode cX6_rest 7 = .ok (.iaload, 1) := by decide +kernel
theorem dX6_rest_8 : decode cX6_rest 8 = .ok (.imul, 1) := by decide +kernel
theorem dX6_rest_9 : decode cX6_rest 9 = .ok (.bipush 10, 2) := by decide +kernel
theorem dX6_rest_11 : decode cX6_rest 11 = .ok (.iadd, 1) := by decide +kernel
theorem dX6_rest_12 : decode cX6_rest 12 = .ok (.istore_n 2, 1) := by decide +kernel
theorem dX6_rest_13 : decode cX6_rest 13 = .ok (.bipush 50, 2) := by decide +kernel
theorem dX6_rest_15 : decode cX6_rest 15 = .ok (.iload_n 1, 1) := by decide +kernel
theorem dX6_rest_16 : decode cX6_rest 16 = .ok (.imul, 1) := by decide +kernel
theorem dX6_rest_17 : decode cX6_rest 17 = .ok (.istore_n 3, 1) := by decide +kernel
theorem dX6_rest_18 : decode cX6_rest 18 = .ok (.iload_n 3, 1) := by decide +kernel
theorem dX6_rest_19 : decode cX6_rest 19 = .ok (.bipush 50, 2) := by decide +kernel
theorem dX6_rest_21 : decode cX6_rest 21 = .ok (.iload_n 1, 1) := by decide +kernel
theorem dX6_rest_22 : decode cX6_rest 22 = .ok (.imul, 1) := by decide +kernel
theorem dX6_rest_23 : decode cX6_rest 23 = .ok (.aload_n 0, 1) := by decide +kernel
theorem dX6_rest_24 : decode cX6_rest 24 = .ok (.getfield 35, 3) := by decide +kernel
theorem dX6_rest_27 : decode cX6_rest 27 = .ok (.iload_n 1, 1) := by decide +kernel
theorem dX6_rest_28 : decode cX6_rest 28 = .ok (.iaload, 1) := by decide +kernel
theorem dX6_rest_29 : decode cX6_rest 29 = .ok (.iadd, 1) := by decide +kernel
theorem dX6_rest_30 : decode cX6_rest 30 = .ok (.if_icmp .ge 42, 3) := by decide +kernel
theorem dX6_rest_33 : decode cX6_rest 33 = .ok (.iload_n 2, 1) := by decide +kernel
theorem dX6_rest_34 : decode cX6_rest 34 = .ok (.aload_n 0, 1) := by decide +kernel
theorem dX6_rest_35 : decode cX6_rest 35 = .ok (.getfield 65, 3) := by decide +kernel
theorem dX6_rest_38 : decode cX6_rest 38 = .ok (.iload_n 3, 1) := by decide +kernel
theorem dX6_rest_39 : decode cX6_rest 39 = .ok (.baload, 1) := by decide +kernel
theorem dX6_rest_40 : decode cX6_rest 40 = .ok (.ifCond .ne 23, 3) := by decide +kernel
theorem dX6_rest_43 : decode cX6_rest 43 = .ok (.aload_n 0, 1) := by decide +kernel
theorem dX6_rest_44 : decode cX6_rest 44 = .ok (.getfield 101, 3) := by decide +kernel
theorem dX6_rest_47 : decode cX6_rest 47 = .ok (.aload_n 0, 1) := by decide +kernel
theorem dX6_rest_48 : decode cX6_rest 48 = .ok (.getfield 59, 3) := by decide +kernel
theorem dX6_rest_51 : decode cX6_rest 51 = .ok (.iload_n 3, 1) := by decide +kernel
theorem dX6_rest_52 : decode cX6_rest 52 = .ok (.iaload, 1) := by decide +kernel
theorem dX6_rest_53 : decode cX6_rest 53 = .ok (.isub, 1) := by decide +kernel
theorem dX6_rest_54 : decode cX6_rest 54 = .ok (.bipush 29, 2) := by decide +kernel
theorem dX6_rest_56 : decode cX6_rest 56 = .ok (.if_icmp .gt 7, 3) := by decide +kernel
theorem dX6_rest_59 : decode cX6_rest 59 = .ok (.iconst 5, 1) := by decide +kernel
theorem dX6_rest_60 : decode cX6_rest 60 = .ok (.goto 4, 3) := by decide +kernel
theorem dX6_rest_63 : decode cX6_rest 63 = .ok (.iconst 0, 1) := by decide +kernel
theorem dX6_rest_64 : decode cX6_rest 64 = .ok (.isub, 1) := by decide +kernel
theorem dX6_rest_65 : decode cX6_rest 65 = .ok (.istore_n 2, 1) := by decide +kernel
theorem dX6_rest_66 : decode cX6_rest 66 = .ok (.iinc 3 1, 3) := by decide +kernel
theorem dX6_rest_69 : decode cX6_rest 69 = .ok (.goto (-51), 3) := by decide +kernel
theorem dX6_rest_72 : decode cX6_rest 72 = .ok (.aload_n 0, 1) := by decide +kernel
theorem dX6_rest_73 : decode cX6_rest 73 = .ok (.getfield 50, 3) := by decide +kernel
theorem dX6_rest_76 : decode cX6_rest 76 = .ok (.iload_n 1, 1) := by decide +kernel
theorem dX6_rest_77 : decode cX6_rest 77 = .ok (.iaload, 1) := by decide +kernel
theorem dX6_rest_78 : decode cX6_rest 78 = .ok (.aload_n 0, 1) := by decide +kernel
theorem dX6_rest_79 : decode cX6_rest 79 = .ok (.getfield 101, 3) := by decide +kernel
theorem dX6_rest_82 : decode cX6_rest 82 = .ok (.bipush 7, 2) := by decide +kernel
theorem dX6_rest_84 : decode cX6_rest 84 = .ok (.idiv, 1) := by decide +kernel
theorem dX6_rest_85 : decode cX6_rest 85 = .ok (.if_icmp .ne 12, 3) := by decide +kernel
theorem dX6_rest_88 : decode cX6_rest 88 = .ok (.aload_n 0, 1) := by decide +kernel
theorem dX6_rest_89 : decode cX6_rest 89 = .ok (.getfield 53, 3) := by decide +kernel
theorem dX6_rest_92 : decode cX6_rest 92 = .ok (.iload_n 1, 1) := by decide +kernel
theorem dX6_rest_93 : decode cX6_rest 93 = .ok (.iaload, 1) := by decide +kernel
theorem dX6_rest_94 : decode cX6_rest 94 = .ok (.goto 4, 3) := by decide +kernel
theorem dX6_rest_97 : decode cX6_rest 97 = .ok (.iconst 0, 1) := by decide +kernel
theorem dX6_rest_98 : decode cX6_rest 98 = .ok (.istore_n 3, 1) := by decide +kernel
theorem dX6_rest_99 : decode cX6_rest 99 = .ok (.iload_n 2, 1) := by decide +kernel
theorem dX6_rest_100 : decode cX6_rest 100 = .ok (.ifCond .ge 7, 3) := by decide +kernel
theorem dX6_rest_103 : decode cX6_rest 103 = .ok (.iconst 0, 1) := by decide +kernel
theorem dX6_rest_104 : decode cX6_rest 104 = .ok (.goto 4, 3) := by decide +kernel
theorem dX6_rest_107 : decode cX6_rest 107 = .ok (.iload_n 2, 1) := by decide +kernel
theorem dX6_rest_108 : decode cX6_rest 108 = .ok (.istore_n 2, 1) := by decide +kernel
theorem dX6_rest_109 : decode cX6_rest 109 = .ok (.aload_n 0, 1) := by decide +kernel
theorem dX6_rest_110 : decode cX6_rest 110 = .ok (.getfield 7, 3) := by decide +kernel
theorem dX6_rest_113 : decode cX6_rest 113 = .ok (.iload_n 1, 1) := by decide +kernel
theorem dX6_rest_114 : decode cX6_rest 114 = .ok (.baload, 1) := by decide +kernel
theorem dX6_rest_115 : decode cX6_rest 115 = .ok (.ifCond .ne 8, 3) := by decide +kernel
theorem dX6_rest_118 : decode cX6_rest 118 = .ok (.iload_n 2, 1) := by decide +kernel
theorem dX6_rest_119 : decode cX6_rest 119 = .ok (.iload_n 3, 1) := by decide +kernel
theorem dX6_rest_120 : decode cX6_rest 120 = .ok (.if_icmp .ge 7, 3) := by decide +kernel
theorem dX6_rest_123 : decode cX6_rest 123 = .ok (.iconst 0, 1) := by decide +kernel
theorem dX6_rest_124 : decode cX6_rest 124 = .ok (.goto 6, 3) := by decide +kernel
theorem dX6_rest_127 : decode cX6_rest 127 = .ok (.iload_n 2, 1) := by decide +kernel
theorem dX6_rest_128 : decode cX6_rest 128 = .ok (.iload_n 3, 1) := by decide +kernel
theorem dX6_rest_129 : decode cX6_rest 129 = .ok (.isub, 1) := by decide +kernel
theorem dX6_rest_130 : decode cX6_rest 130 = .ok (.ireturn, 1) := by decide +kernel
set_option maxRecDepth 20000 in
theorem ggX6_buy_X6_isPerson : GoodIn wsX6_buy wsX6_isPerson := goodIn_r _ [10, 11, 12, 13, 9, 14, 28, 29, 30, 31, 32, 33, 34, 35, 36, 37, 38, 39, 40, 41, 42, 43, 44, 45, 46, 47, 48, 49, 50, 51, 52, 53, 54, 55] (by decide +kernel) (by decide +kernel)
set_option maxRecDepth 20000 in
theorem gX6_buy_X6_isPerson : GoodIn wsX6_buy (wsV RX6 111 RX6 yX6_isPerson wsX6_isPerson) := goodIn_app (goodIn_of _ (by decide +kernel)) ggX6_buy_X6_isPerson
set_option maxRecDepth 20000 in
theorem ggX6_buy_X6_lies : GoodIn wsX6_buy wsX6_lies := goodIn_r _ [14] (by decide +kernel) (by decide +kernel)
set_option maxRecDepth 20000 in
theorem gX6_buy_X6_lies : GoodIn wsX6_buy (va_wsS RX6 90 yX6_lies wsX6_lies) := goodIn_app (goodIn_of _ (by decide +kernel)) ggX6_buy_X6_lies
set_option maxRecDepth 20000 in
theorem ggX6_buy_X6_rest : GoodIn wsX6_buy wsX6_rest := goodIn_r _ [18, 19, 20, 21, 5, 22, 4, 3, 1, 28, 29, 30, 31, 32, 33, 34, 35, 36, 37, 38, 39, 40, 41, 42, 43, 44, 45, 46, 47, 48, 49, 50, 51, 52, 53, 54, 55] (by decide +kernel) (by decide +kernel)
set_option maxRecDepth 20000 in
theorem gX6_buy_X6_rest : GoodIn wsX6_buy (wsV RX6 134 RX6 yX6_rest wsX6_rest) := goodIn_app (goodIn_of _ (by decide +kernel)) ggX6_buy_X6_rest
set_option maxRecDepth 20000 in
theorem ggX6_buy_X6_fails : GoodIn wsX6_buy wsX6_fails := goodIn_r _ [26, 27, 28, 29, 30, 31, 32, 33, 34, 35, 36, 37, 38, 39, 40, 41, 42, 43, 44, 45, 46, 47, 48, 49, 50, 51, 52, 53, 54, 55] (by decide +kernel) (by decide +kernel)
set_option maxRecDepth 20000 in
theorem gX6_buy_X6_fails : GoodIn wsX6_buy (wsV RX6 97 RX6 yX6_fails wsX6_fails) := goodIn_app (goodIn_of _ (by decide +kernel)) ggX6_buy_X6_fails
theorem dX6_buy_0 : decode cX6_buy 0 = .ok (.aload_n 0, 1) := by decide +kernel
theorem dX6_buy_1 : decode cX6_buy 1 = .ok (.iload_n 1, 1) := by decide +kernel
theorem dX6_buy_2 : decode cX6_buy 2 = .ok (.invokevirtual 111, 3) := by decide +kernel
theorem dX6_buy_5 : decode cX6_buy 5 = .ok (.istore_n 3, 1) := by decide +kernel
theorem dX6_buy_6 : decode cX6_buy 6 = .ok (.iload_n 2, 1) := by decide +kernel
theorem dX6_buy_7 : decode cX6_buy 7 = .ok (.iconst 1, 1) := by decide +kernel
theorem dX6_buy_8 : decode cX6_buy 8 = .ok (.sipush 1000, 3) := by decide +kernel
theorem dX6_buy_11 : decode cX6_buy 11 = .ok (.invokestatic 90, 3) := by decide +kernel
theorem dX6_buy_14 : decode cX6_buy 14 = .ok (.istore 4, 2) := by decide +kernel
theorem dX6_buy_16 : decode cX6_buy 16 = .ok (.iload_n 3, 1) := by decide +kernel
theorem dX6_buy_17 : decode cX6_buy 17 = .ok (.ifCond .eq 44, 3) := by decide +kernel
theorem dX6_buy_20 : decode cX6_buy 20 = .ok (.iload 4, 2) := by decide +kernel
theorem dX6_buy_22 : decode cX6_buy 22 = .ok (.ifCond .eq 39, 3) := by decide +kernel
theorem dX6_buy_25 : decode cX6_buy 25 = .ok (.aload_n 0, 1) := by decide +kernel
theorem dX6_buy_26 : decode cX6_buy 26 = .ok (.getfield 7, 3) := by decide +kernel
theorem dX6_buy_29 : decode cX6_buy 29 = .ok (.iload_n 1, 1) := by decide +kernel
theorem dX6_buy_30 : decode cX6_buy 30 = .ok (.baload, 1) := by decide +kernel
theorem dX6_buy_31 : decode cX6_buy 31 = .ok (.ifCond .ne 30, 3) := by decide +kernel
theorem dX6_buy_34 : decode cX6_buy 34 = .ok (.aload_n 0, 1) := by decide +kernel
theorem dX6_buy_35 : decode cX6_buy 35 = .ok (.getfield 47, 3) := by decide +kernel
theorem dX6_buy_38 : decode cX6_buy 38 = .ok (.iconst 4, 1) := by decide +kernel
theorem dX6_buy_39 : decode cX6_buy 39 = .ok (.iload_n 1, 1) := by decide +kernel
theorem dX6_buy_40 : decode cX6_buy 40 = .ok (.imul, 1) := by decide +kernel
theorem dX6_buy_41 : decode cX6_buy 41 = .ok (.iconst 3, 1) := by decide +kernel
theorem dX6_buy_42 : decode cX6_buy 42 = .ok (.iadd, 1) := by decide +kernel
theorem dX6_buy_43 : decode cX6_buy 43 = .ok (.iaload, 1) := by decide +kernel
theorem dX6_buy_44 : decode cX6_buy 44 = .ok (.iload_n 2, 1) := by decide +kernel
theorem dX6_buy_45 : decode cX6_buy 45 = .ok (.if_icmp .lt 16, 3) := by decide +kernel
theorem dX6_buy_48 : decode cX6_buy 48 = .ok (.iload_n 2, 1) := by decide +kernel
theorem dX6_buy_49 : decode cX6_buy 49 = .ok (.aload_n 0, 1) := by decide +kernel
theorem dX6_buy_50 : decode cX6_buy 50 = .ok (.iload_n 1, 1) := by decide +kernel
theorem dX6_buy_51 : decode cX6_buy 51 = .ok (.invokevirtual 134, 3) := by decide +kernel
theorem dX6_buy_54 : decode cX6_buy 54 = .ok (.if_icmp .gt 7, 3) := by decide +kernel
theorem dX6_buy_57 : decode cX6_buy 57 = .ok (.iconst 1, 1) := by decide +kernel
theorem dX6_buy_58 : decode cX6_buy 58 = .ok (.goto 4, 3) := by decide +kernel
theorem dX6_buy_61 : decode cX6_buy 61 = .ok (.iconst 0, 1) := by decide +kernel
theorem dX6_buy_62 : decode cX6_buy 62 = .ok (.istore 5, 2) := by decide +kernel
theorem dX6_buy_64 : decode cX6_buy 64 = .ok (.aload_n 0, 1) := by decide +kernel
theorem dX6_buy_65 : decode cX6_buy 65 = .ok (.iload_n 3, 1) := by decide +kernel
theorem dX6_buy_66 : decode cX6_buy 66 = .ok (.ifCond .ne 7, 3) := by decide +kernel
theorem dX6_buy_69 : decode cX6_buy 69 = .ok (.iconst 1, 1) := by decide +kernel
theorem dX6_buy_70 : decode cX6_buy 70 = .ok (.goto 22, 3) := by decide +kernel
theorem dX6_buy_73 : decode cX6_buy 73 = .ok (.iload 4, 2) := by decide +kernel
theorem dX6_buy_75 : decode cX6_buy 75 = .ok (.ifCond .ne 7, 3) := by decide +kernel
theorem dX6_buy_78 : decode cX6_buy 78 = .ok (.iconst 2, 1) := by decide +kernel
theorem dX6_buy_79 : decode cX6_buy 79 = .ok (.goto 13, 3) := by decide +kernel
theorem dX6_buy_82 : decode cX6_buy 82 = .ok (.iload 5, 2) := by decide +kernel
theorem dX6_buy_84 : decode cX6_buy 84 = .ok (.ifCond .eq 7, 3) := by decide +kernel
theorem dX6_buy_87 : decode cX6_buy 87 = .ok (.iconst 0, 1) := by decide +kernel
theorem dX6_buy_88 : decode cX6_buy 88 = .ok (.goto 4, 3) := by decide +kernel
theorem dX6_buy_91 : decode cX6_buy 91 = .ok (.iconst 3, 1) := by decide +kernel
theorem dX6_buy_92 : decode cX6_buy 92 = .ok (.invokevirtual 97, 3) := by decide +kernel
theorem dX6_buy_95 : decode cX6_buy 95 = .ok (.ifCond .eq 5, 3) := by decide +kernel
theorem dX6_buy_98 : decode cX6_buy 98 = .ok (.iconst 0, 1) := by decide +kernel
theorem dX6_buy_99 : decode cX6_buy 99 = .ok (.ireturn, 1) := by decide +kernel
theorem dX6_buy_100 : decode cX6_buy 100 = .ok (.aload_n 0, 1) := by decide +kernel
theorem dX6_buy_101 : decode cX6_buy 101 = .ok (.getfield 53, 3) := by decide +kernel
theorem dX6_buy_104 : decode cX6_buy 104 = .ok (.iload_n 1, 1) := by decide +kernel
theorem dX6_buy_105 : decode cX6_buy 105 = .ok (.aload_n 0, 1) := by decide +kernel
theorem dX6_buy_106 : decode cX6_buy 106 = .ok (.getfield 50, 3) := by decide +kernel
theorem dX6_buy_109 : decode cX6_buy 109 = .ok (.iload_n 1, 1) := by decide +kernel
theorem dX6_buy_110 : decode cX6_buy 110 = .ok (.iaload, 1) := by decide +kernel
theorem dX6_buy_111 : decode cX6_buy 111 = .ok (.aload_n 0, 1) := by decide +kernel
theorem dX6_buy_112 : decode cX6_buy 112 = .ok (.getfield 101, 3) := by decide +kernel
theorem dX6_buy_115 : decode cX6_buy 115 = .ok (.bipush 7, 2) := by decide +kernel
theorem dX6_buy_117 : decode cX6_buy 117 = .ok (.idiv, 1) := by decide +kernel
theorem dX6_buy_118 : decode cX6_buy 118 = .ok (.if_icmp .ne 12, 3) := by decide +kernel
theorem dX6_buy_121 : decode cX6_buy 121 = .ok (.aload_n 0, 1) := by decide +kernel
theorem dX6_buy_122 : decode cX6_buy 122 = .ok (.getfield 53, 3) := by decide +kernel
theorem dX6_buy_125 : decode cX6_buy 125 = .ok (.iload_n 1, 1) := by decide +kernel
theorem dX6_buy_126 : decode cX6_buy 126 = .ok (.iaload, 1) := by decide +kernel
theorem dX6_buy_127 : decode cX6_buy 127 = .ok (.goto 4, 3) := by decide +kernel
theorem dX6_buy_130 : decode cX6_buy 130 = .ok (.iconst 0, 1) := by decide +kernel
theorem dX6_buy_131 : decode cX6_buy 131 = .ok (.iload_n 2, 1) := by decide +kernel
theorem dX6_buy_132 : decode cX6_buy 132 = .ok (.iadd, 1) := by decide +kernel
theorem dX6_buy_133 : decode cX6_buy 133 = .ok (.iastore, 1) := by decide +kernel
theorem dX6_buy_134 : decode cX6_buy 134 = .ok (.aload_n 0, 1) := by decide +kernel
theorem dX6_buy_135 : decode cX6_buy 135 = .ok (.getfield 50, 3) := by decide +kernel
theorem dX6_buy_138 : decode cX6_buy 138 = .ok (.iload_n 1, 1) := by decide +kernel
theorem dX6_buy_139 : decode cX6_buy 139 = .ok (.aload_n 0, 1) := by decide +kernel
theorem dX6_buy_140 : decode cX6_buy 140 = .ok (.getfield 101, 3) := by decide +kernel
theorem dX6_buy_143 : decode cX6_buy 143 = .ok (.bipush 7, 2) := by decide +kernel
theorem dX6_buy_145 : decode cX6_buy 145 = .ok (.idiv, 1) := by decide +kernel
theorem dX6_buy_146 : decode cX6_buy 146 = .ok (.iastore, 1) := by decide +kernel
theorem dX6_buy_147 : decode cX6_buy 147 = .ok (.aload_n 0, 1) := by decide +kernel
theorem dX6_buy_148 : decode cX6_buy 148 = .ok (.getfield 47, 3) := by decide +kernel
theorem dX6_buy_151 : decode cX6_buy 151 = .ok (.iconst 4, 1) := by decide +kernel
theorem dX6_buy_152 : decode cX6_buy 152 = .ok (.iload_n 1, 1) := by decide +kernel
theorem dX6_buy_153 : decode cX6_buy 153 = .ok (.imul, 1) := by decide +kernel
theorem dX6_buy_154 : decode cX6_buy 154 = .ok (.iconst 3, 1) := by decide +kernel
theorem dX6_buy_155 : decode cX6_buy 155 = .ok (.iadd, 1) := by decide +kernel
theorem dX6_buy_156 : decode cX6_buy 156 = .ok (.dup2, 1) := by decide +kernel
theorem dX6_buy_157 : decode cX6_buy 157 = .ok (.iaload, 1) := by decide +kernel
theorem dX6_buy_158 : decode cX6_buy 158 = .ok (.iload_n 2, 1) := by decide +kernel
theorem dX6_buy_159 : decode cX6_buy 159 = .ok (.isub, 1) := by decide +kernel
theorem dX6_buy_160 : decode cX6_buy 160 = .ok (.iastore, 1) := by decide +kernel
theorem dX6_buy_161 : decode cX6_buy 161 = .ok (.aload_n 0, 1) := by decide +kernel
theorem dX6_buy_162 : decode cX6_buy 162 = .ok (.getfield 47, 3) := by decide +kernel
theorem dX6_buy_165 : decode cX6_buy 165 = .ok (.iconst 4, 1) := by decide +kernel
theorem dX6_buy_166 : decode cX6_buy 166 = .ok (.iload_n 1, 1) := by decide +kernel
theorem dX6_buy_167 : decode cX6_buy 167 = .ok (.imul, 1) := by decide +kernel
theorem dX6_buy_168 : decode cX6_buy 168 = .ok (.iconst 3, 1) := by decide +kernel
theorem dX6_buy_169 : decode cX6_buy 169 = .ok (.iadd, 1) := by decide +kernel
theorem dX6_buy_170 : decode cX6_buy 170 = .ok (.iaload, 1) := by decide +kernel
theorem dX6_buy_171 : decode cX6_buy 171 = .ok (.ireturn, 1) := by decide +kernel
set_option maxRecDepth 20000 in
theorem ggX6_limit_X6_isPerson : GoodIn wsX6_limit wsX6_isPerson := goodIn_r _ [5, 6, 7, 8, 4, 9, 27, 28, 29, 30, 31, 32, 33, 34, 35, 36, 37, 38, 39, 40, 41, 42, 43, 44, 45, 46, 47, 48, 49, 50, 51, 52, 53, 54] (by decide +kernel) (by decide +kernel)
set_option maxRecDepth 20000 in
theorem gX6_limit_X6_isPerson : GoodIn wsX6_limit (wsV RX6 111 RX6 yX6_isPerson wsX6_isPerson) := goodIn_app (goodIn_of _ (by decide +kernel)) ggX6_limit_X6_isPerson
set_option maxRecDepth 20000 in
theorem ggX6_limit_X6_fails : GoodIn wsX6_limit wsX6_fails := goodIn_r _ [13, 14, 27, 28, 29, 30, 31, 32, 33, 34, 35, 36, 37, 38, 39, 40, 41, 42, 43, 44, 45, 46, 47, 48, 49, 50, 51, 52, 53, 54] (by decide +kernel) (by decide +kernel)
set_option maxRecDepth 20000 in
theorem gX6_limit_X6_fails : GoodIn wsX6_limit (wsV RX6 97 RX6 yX6_fails wsX6_fails) := goodIn_app (goodIn_of _ (by decide +kernel)) ggX6_limit_X6_fails
set_option maxRecDepth 20000 in
theorem ggX6_limit_X6_rest : GoodIn wsX6_limit wsX6_rest := goodIn_r _ [18, 19, 20, 21, 22, 23, 24, 25, 26, 27, 28, 29, 30, 31, 32, 33, 34, 35, 36, 37, 38, 39, 40, 41, 42, 43, 44, 45, 46, 47, 48, 49, 50, 51, 52, 53, 54] (by decide +kernel) (by decide +kernel)
set_option maxRecDepth 20000 in
theorem gX6_limit_X6_rest : GoodIn wsX6_limit (wsV RX6 134 RX6 yX6_rest wsX6_rest) := goodIn_app (goodIn_of _ (by decide +kernel)) ggX6_limit_X6_rest
theorem dX6_limit_0 : decode cX6_limit 0 = .ok (.aload_n 0, 1) := by decide +kernel
theorem dX6_limit_1 : decode cX6_limit 1 = .ok (.aload_n 0, 1) := by decide +kernel
theorem dX6_limit_2 : decode cX6_limit 2 = .ok (.iload_n 1, 1) := by decide +kernel
theorem dX6_limit_3 : decode cX6_limit 3 = .ok (.invokevirtual 111, 3) := by decide +kernel
theorem dX6_limit_6 : decode cX6_limit 6 = .ok (.ifCond .eq 7, 3) := by decide +kernel
theorem dX6_limit_9 : decode cX6_limit 9 = .ok (.iconst 0, 1) := by decide +kernel
theorem dX6_limit_10 : decode cX6_limit 10 = .ok (.goto 4, 3) := by decide +kernel
theorem dX6_limit_13 : decode cX6_limit 13 = .ok (.iconst 1, 1) := by decide +kernel
theorem dX6_limit_14 : decode cX6_limit 14 = .ok (.invokevirtual 97, 3) := by decide +kernel
theorem dX6_limit_17 : decode cX6_limit 17 = .ok (.ifCond .eq 7, 3) := by decide +kernel
theorem dX6_limit_20 : decode cX6_limit 20 = .ok (.iconst 0, 1) := by decide +kernel
theorem dX6_limit_21 : decode cX6_limit 21 = .ok (.goto 8, 3) := by decide +kernel
theorem dX6_limit_24 : decode cX6_limit 24 = .ok (.aload_n 0, 1) := by decide +kernel
theorem dX6_limit_25 : decode cX6_limit 25 = .ok (.iload_n 1, 1) := by decide +kernel
theorem dX6_limit_26 : decode cX6_limit 26 = .ok (.invokevirtual 134, 3) := by decide +kernel
theorem dX6_limit_29 : decode cX6_limit 29 = .ok (.ireturn, 1) := by decide +kernel
set_option maxRecDepth 20000 in
theorem ggX6_paidOut_X6_of : GoodIn wsX6_paidOut wsX6_of := goodIn_r _ [6, 7, 8, 9, 5, 10, 11, 12, 13, 14, 15, 16, 17, 18, 19, 20, 21, 22, 23, 24, 25, 26, 27, 28, 29, 30, 31, 32, 33, 34, 35, 36, 37, 38, 39, 40, 41, 42, 43, 44, 45, 46, 47] (by decide +kernel) (by decide +kernel)
set_option maxRecDepth 20000 in
theorem gX6_paidOut_X6_of : GoodIn wsX6_paidOut (wsV RX6 121 RX6 yX6_of wsX6_of) := goodIn_app (goodIn_of _ (by decide +kernel)) ggX6_paidOut_X6_of
theorem dX6_paidOut_0 : decode cX6_paidOut 0 = .ok (.aload_n 0, 1) := by decide +kernel
theorem dX6_paidOut_1 : decode cX6_paidOut 1 = .ok (.aload_n 0, 1) := by decide +kernel
theorem dX6_paidOut_2 : decode cX6_paidOut 2 = .ok (.getfield 44, 3) := by decide +kernel
theorem dX6_paidOut_5 : decode cX6_paidOut 5 = .ok (.iload_n 1, 1) := by decide +kernel
theorem dX6_paidOut_6 : decode cX6_paidOut 6 = .ok (.invokevirtual 121, 3) := by decide +kernel
theorem dX6_paidOut_9 : decode cX6_paidOut 9 = .ok (.ireturn, 1) := by decide +kernel
theorem dX6_works_0 : decode cX6_works 0 = .ok (.aload_n 0, 1) := by decide +kernel
theorem dX6_works_1 : decode cX6_works 1 = .ok (.getfield 38, 3) := by decide +kernel
theorem dX6_works_4 : decode cX6_works 4 = .ok (.iload_n 1, 1) := by decide +kernel
theorem dX6_works_5 : decode cX6_works 5 = .ok (.iaload, 1) := by decide +kernel
theorem dX6_works_6 : decode cX6_works 6 = .ok (.istore_n 2, 1) := by decide +kernel
theorem dX6_works_7 : decode cX6_works 7 = .ok (.iload_n 2, 1) := by decide +kernel
theorem dX6_works_8 : decode cX6_works 8 = .ok (.iconst (-1), 1) := by decide +kernel
theorem dX6_works_9 : decode cX6_works 9 = .ok (.if_icmp .eq 12, 3) := by decide +kernel
theorem dX6_works_12 : decode cX6_works 12 = .ok (.aload_n 0, 1) := by decide +kernel
theorem dX6_works_13 : decode cX6_works 13 = .ok (.getfield 77, 3) := by decide +kernel
theorem dX6_works_16 : decode cX6_works 16 = .ok (.iload_n 2, 1) := by decide +kernel
theorem dX6_works_17 : decode cX6_works 17 = .ok (.iaload, 1) := by decide +kernel
theorem dX6_works_18 : decode cX6_works 18 = .ok (.ifCond .ne 4, 3) := by decide +kernel
theorem dX6_works_21 : decode cX6_works 21 = .ok (.return_, 1) := by decide +kernel
theorem dX6_works_22 : decode cX6_works 22 = .ok (.aload_n 0, 1) := by decide +kernel
theorem dX6_works_23 : decode cX6_works 23 = .ok (.getfield 77, 3) := by decide +kernel
theorem dX6_works_26 : decode cX6_works 26 = .ok (.iload_n 2, 1) := by decide +kernel
theorem dX6_works_27 : decode cX6_works 27 = .ok (.dup2, 1) := by decide +kernel
theorem dX6_works_28 : decode cX6_works 28 = .ok (.iaload, 1) := by decide +kernel
theorem dX6_works_29 : decode cX6_works 29 = .ok (.iconst 1, 1) := by decide +kernel
theorem dX6_works_30 : decode cX6_works 30 = .ok (.isub, 1) := by decide +kernel
theorem dX6_works_31 : decode cX6_works 31 = .ok (.iastore, 1) := by decide +kernel
theorem dX6_works_32 : decode cX6_works 32 = .ok (.aload_n 0, 1) := by decide +kernel
theorem dX6_works_33 : decode cX6_works 33 = .ok (.getfield 26, 3) := by decide +kernel
theorem dX6_works_36 : decode cX6_works 36 = .ok (.iload_n 1, 1) := by decide +kernel
theorem dX6_works_37 : decode cX6_works 37 = .ok (.dup2, 1) := by decide +kernel
theorem dX6_works_38 : decode cX6_works 38 = .ok (.iaload, 1) := by decide +kernel
theorem dX6_works_39 : decode cX6_works 39 = .ok (.iconst 1, 1) := by decide +kernel
theorem dX6_works_40 : decode cX6_works 40 = .ok (.iadd, 1) := by decide +kernel
theorem dX6_works_41 : decode cX6_works 41 = .ok (.iastore, 1) := by decide +kernel
theorem dX6_works_42 : decode cX6_works 42 = .ok (.aload_n 0, 1) := by decide +kernel
theorem dX6_works_43 : decode cX6_works 43 = .ok (.getfield 80, 3) := by decide +kernel
theorem dX6_works_46 : decode cX6_works 46 = .ok (.iload_n 2, 1) := by decide +kernel
theorem dX6_works_47 : decode cX6_works 47 = .ok (.iaload, 1) := by decide +kernel
theorem dX6_works_48 : decode cX6_works 48 = .ok (.bipush 30, 2) := by decide +kernel
theorem dX6_works_50 : decode cX6_works 50 = .ok (.imul, 1) := by decide +kernel
theorem dX6_works_51 : decode cX6_works 51 = .ok (.bipush 100, 2) := by decide +kernel
theorem dX6_works_53 : decode cX6_works 53 = .ok (.idiv, 1) := by decide +kernel
theorem dX6_works_54 : decode cX6_works 54 = .ok (.istore_n 3, 1) := by decide +kernel
theorem dX6_works_55 : decode cX6_works 55 = .ok (.aload_n 0, 1) := by decide +kernel
theorem dX6_works_56 : decode cX6_works 56 = .ok (.getfield 80, 3) := by decide +kernel
theorem dX6_works_59 : decode cX6_works 59 = .ok (.iload_n 2, 1) := by decide +kernel
theorem dX6_works_60 : decode cX6_works 60 = .ok (.iaload, 1) := by decide +kernel
theorem dX6_works_61 : decode cX6_works 61 = .ok (.bipush 20, 2) := by decide +kernel
theorem dX6_works_63 : decode cX6_works 63 = .ok (.imul, 1) := by decide +kernel
theorem dX6_works_64 : decode cX6_works 64 = .ok (.bipush 100, 2) := by decide +kernel
theorem dX6_works_66 : decode cX6_works 66 = .ok (.idiv, 1) := by decide +kernel
theorem dX6_works_67 : decode cX6_works 67 = .ok (.istore 4, 2) := by decide +kernel
theorem dX6_works_69 : decode cX6_works 69 = .ok (.aload_n 0, 1) := by decide +kernel
theorem dX6_works_70 : decode cX6_works 70 = .ok (.getfield 47, 3) := by decide +kernel
theorem dX6_works_73 : decode cX6_works 73 = .ok (.iconst 4, 1) := by decide +kernel
theorem dX6_works_74 : decode cX6_works 74 = .ok (.iload_n 1, 1) := by decide +kernel
theorem dX6_works_75 : decode cX6_works 75 = .ok (.imul, 1) := by decide +kernel
theorem dX6_works_76 : decode cX6_works 76 = .ok (.iconst 0, 1) := by decide +kernel
theorem dX6_works_77 : decode cX6_works 77 = .ok (.iadd, 1) := by decide +kernel
theorem dX6_works_78 : decode cX6_works 78 = .ok (.dup2, 1) := by decide +kernel
theorem dX6_works_79 : decode cX6_works 79 = .ok (.iaload, 1) := by decide +kernel
theorem dX6_works_80 : decode cX6_works 80 = .ok (.iload_n 3, 1) := by decide +kernel
theorem dX6_works_81 : decode cX6_works 81 = .ok (.iadd, 1) := by decide +kernel
theorem dX6_works_82 : decode cX6_works 82 = .ok (.iastore, 1) := by decide +kernel
theorem dX6_works_83 : decode cX6_works 83 = .ok (.aload_n 0, 1) := by decide +kernel
theorem dX6_works_84 : decode cX6_works 84 = .ok (.getfield 47, 3) := by decide +kernel
theorem dX6_works_87 : decode cX6_works 87 = .ok (.iconst 4, 1) := by decide +kernel
theorem dX6_works_88 : decode cX6_works 88 = .ok (.iload_n 1, 1) := by decide +kernel
theorem dX6_works_89 : decode cX6_works 89 = .ok (.imul, 1) := by decide +kernel
theorem dX6_works_90 : decode cX6_works 90 = .ok (.iconst 1, 1) := by decide +kernel
theorem dX6_works_91 : decode cX6_works 91 = .ok (.iadd, 1) := by decide +kernel
theorem dX6_works_92 : decode cX6_works 92 = .ok (.dup2, 1) := by decide +kernel
theorem dX6_works_93 : decode cX6_works 93 = .ok (.iaload, 1) := by decide +kernel
theorem dX6_works_94 : decode cX6_works 94 = .ok (.iload 4, 2) := by decide +kernel
theorem dX6_works_96 : decode cX6_works 96 = .ok (.iadd, 1) := by decide +kernel
theorem dX6_works_97 : decode cX6_works 97 = .ok (.iastore, 1) := by decide +kernel
theorem dX6_works_98 : decode cX6_works 98 = .ok (.aload_n 0, 1) := by decide +kernel
theorem dX6_works_99 : decode cX6_works 99 = .ok (.getfield 47, 3) := by decide +kernel
theorem dX6_works_102 : decode cX6_works 102 = .ok (.iconst 4, 1) := by decide +kernel
theorem dX6_works_103 : decode cX6_works 103 = .ok (.iload_n 1, 1) := by decide +kernel
theorem dX6_works_104 : decode cX6_works 104 = .ok (.imul, 1) := by decide +kernel
theorem dX6_works_105 : decode cX6_works 105 = .ok (.iconst 2, 1) := by decide +kernel
theorem dX6_works_106 : decode cX6_works 106 = .ok (.iadd, 1) := by decide +kernel
theorem dX6_works_107 : decode cX6_works 107 = .ok (.dup2, 1) := by decide +kernel
theorem dX6_works_108 : decode cX6_works 108 = .ok (.iaload, 1) := by decide +kernel
theorem dX6_works_109 : decode cX6_works 109 = .ok (.iload_n 3, 1) := by decide +kernel
theorem dX6_works_110 : decode cX6_works 110 = .ok (.iadd, 1) := by decide +kernel
theorem dX6_works_111 : decode cX6_works 111 = .ok (.iastore, 1) := by decide +kernel
theorem dX6_works_112 : decode cX6_works 112 = .ok (.aload_n 0, 1) := by decide +kernel
theorem dX6_works_113 : decode cX6_works 113 = .ok (.getfield 47, 3) := by decide +kernel
theorem dX6_works_116 : decode cX6_works 116 = .ok (.iconst 4, 1) := by decide +kernel
theorem dX6_works_117 : decode cX6_works 117 = .ok (.iload_n 1, 1) := by decide +kernel
theorem dX6_works_118 : decode cX6_works 118 = .ok (.imul, 1) := by decide +kernel
theorem dX6_works_119 : decode cX6_works 119 = .ok (.iconst 3, 1) := by decide +kernel
theorem dX6_works_120 : decode cX6_works 120 = .ok (.iadd, 1) := by decide +kernel
theorem dX6_works_121 : decode cX6_works 121 = .ok (.dup2, 1) := by decide +kernel
theorem dX6_works_122 : decode cX6_works 122 = .ok (.iaload, 1) := by decide +kernel
theorem dX6_works_123 : decode cX6_works 123 = .ok (.aload_n 0, 1) := by decide +kernel
theorem dX6_works_124 : decode cX6_works 124 = .ok (.getfield 80, 3) := by decide +kernel
theorem dX6_works_127 : decode cX6_works 127 = .ok (.iload_n 2, 1) := by decide +kernel
theorem dX6_works_128 : decode cX6_works 128 = .ok (.iaload, 1) := by decide +kernel
theorem dX6_works_129 : decode cX6_works 129 = .ok (.iload_n 3, 1) := by decide +kernel
theorem dX6_works_130 : decode cX6_works 130 = .ok (.isub, 1) := by decide +kernel
theorem dX6_works_131 : decode cX6_works 131 = .ok (.iload 4, 2) := by decide +kernel
theorem dX6_works_133 : decode cX6_works 133 = .ok (.isub, 1) := by decide +kernel
theorem dX6_works_134 : decode cX6_works 134 = .ok (.iload_n 3, 1) := by decide +kernel
theorem dX6_works_135 : decode cX6_works 135 = .ok (.isub, 1) := by decide +kernel
theorem dX6_works_136 : decode cX6_works 136 = .ok (.iadd, 1) := by decide +kernel
theorem dX6_works_137 : decode cX6_works 137 = .ok (.iastore, 1) := by decide +kernel
theorem dX6_works_138 : decode cX6_works 138 = .ok (.return_, 1) := by decide +kernel
set_option maxRecDepth 20000 in
theorem ggX6_goes_X6_releaseOf : GoodIn wsX6_goes wsX6_releaseOf := goodIn_r _ [11, 12, 1, 3, 13, 14, 15, 16, 10, 17, 18, 19, 20, 21, 22, 23, 24, 25, 26, 27, 28, 29, 30, 31, 32, 33, 34, 35, 36, 37, 38, 39, 40, 41, 42, 43, 44, 45, 46, 47, 48, 49, 50, 51, 52, 53, 54] (by decide +kernel) (by decide +kernel)
set_option maxRecDepth 20000 in
theorem gX6_goes_X6_releaseOf : GoodIn wsX6_goes (wsV RX6 118 RX6 yX6_releaseOf wsX6_releaseOf) := goodIn_app (goodIn_of _ (by decide +kernel)) ggX6_goes_X6_releaseOf
theorem dX6_goes_0 : decode cX6_goes 0 = .ok (.aload_n 0, 1) := by decide +kernel
theorem dX6_goes_1 : decode cX6_goes 1 = .ok (.getfield 7, 3) := by decide +kernel
theorem dX6_goes_4 : decode cX6_goes 4 = .ok (.iload_n 1, 1) := by decide +kernel
theorem dX6_goes_5 : decode cX6_goes 5 = .ok (.baload, 1) := by decide +kernel
theorem dX6_goes_6 : decode cX6_goes 6 = .ok (.ifCond .ne 15, 3) := by decide +kernel
theorem dX6_goes_9 : decode cX6_goes 9 = .ok (.aload_n 0, 1) := by decide +kernel
theorem dX6_goes_10 : decode cX6_goes 10 = .ok (.iload_n 1, 1) := by decide +kernel
theorem dX6_goes_11 : decode cX6_goes 11 = .ok (.invokevirtual 118, 3) := by decide +kernel
theorem dX6_goes_14 : decode cX6_goes 14 = .ok (.aload_n 0, 1) := by decide +kernel
theorem dX6_goes_15 : decode cX6_goes 15 = .ok (.getfield 101, 3) := by decide +kernel
theorem dX6_goes_18 : decode cX6_goes 18 = .ok (.if_icmp .le 5, 3) := by decide +kernel
theorem dX6_goes_21 : decode cX6_goes 21 = .ok (.iconst 0, 1) := by decide +kernel
theorem dX6_goes_22 : decode cX6_goes 22 = .ok (.ireturn, 1) := by decide +kernel
theorem dX6_goes_23 : decode cX6_goes 23 = .ok (.aload_n 0, 1) := by decide +kernel
theorem dX6_goes_24 : decode cX6_goes 24 = .ok (.getfield 7, 3) := by decide +kernel
theorem dX6_goes_27 : decode cX6_goes 27 = .ok (.iload_n 1, 1) := by decide +kernel
theorem dX6_goes_28 : decode cX6_goes 28 = .ok (.iconst 1, 1) := by decide +kernel
theorem dX6_goes_29 : decode cX6_goes 29 = .ok (.bastore, 1) := by decide +kernel
theorem dX6_goes_30 : decode cX6_goes 30 = .ok (.aload_n 0, 1) := by decide +kernel
theorem dX6_goes_31 : decode cX6_goes 31 = .ok (.getfield 41, 3) := by decide +kernel
theorem dX6_goes_34 : decode cX6_goes 34 = .ok (.iload_n 1, 1) := by decide +kernel
theorem dX6_goes_35 : decode cX6_goes 35 = .ok (.aload_n 0, 1) := by decide +kernel
theorem dX6_goes_36 : decode cX6_goes 36 = .ok (.getfield 101, 3) := by decide +kernel
theorem dX6_goes_39 : decode cX6_goes 39 = .ok (.iastore, 1) := by decide +kernel
theorem dX6_goes_40 : decode cX6_goes 40 = .ok (.aload_n 0, 1) := by decide +kernel
theorem dX6_goes_41 : decode cX6_goes 41 = .ok (.getfield 38, 3) := by decide +kernel
theorem dX6_goes_44 : decode cX6_goes 44 = .ok (.iload_n 1, 1) := by decide +kernel
theorem dX6_goes_45 : decode cX6_goes 45 = .ok (.iconst (-1), 1) := by decide +kernel
theorem dX6_goes_46 : decode cX6_goes 46 = .ok (.iastore, 1) := by decide +kernel
theorem dX6_goes_47 : decode cX6_goes 47 = .ok (.aload_n 0, 1) := by decide +kernel
theorem dX6_goes_48 : decode cX6_goes 48 = .ok (.getfield 44, 3) := by decide +kernel
theorem dX6_goes_51 : decode cX6_goes 51 = .ok (.iload_n 1, 1) := by decide +kernel
theorem dX6_goes_52 : decode cX6_goes 52 = .ok (.aload_n 0, 1) := by decide +kernel
theorem dX6_goes_53 : decode cX6_goes 53 = .ok (.getfield 47, 3) := by decide +kernel
theorem dX6_goes_56 : decode cX6_goes 56 = .ok (.iconst 4, 1) := by decide +kernel
theorem dX6_goes_57 : decode cX6_goes 57 = .ok (.iload_n 1, 1) := by decide +kernel
theorem dX6_goes_58 : decode cX6_goes 58 = .ok (.imul, 1) := by decide +kernel
theorem dX6_goes_59 : decode cX6_goes 59 = .ok (.iconst 2, 1) := by decide +kernel
theorem dX6_goes_60 : decode cX6_goes 60 = .ok (.iadd, 1) := by decide +kernel
theorem dX6_goes_61 : decode cX6_goes 61 = .ok (.iaload, 1) := by decide +kernel
theorem dX6_goes_62 : decode cX6_goes 62 = .ok (.aload_n 0, 1) := by decide +kernel
theorem dX6_goes_63 : decode cX6_goes 63 = .ok (.getfield 47, 3) := by decide +kernel
theorem dX6_goes_66 : decode cX6_goes 66 = .ok (.iconst 4, 1) := by decide +kernel
theorem dX6_goes_67 : decode cX6_goes 67 = .ok (.iload_n 1, 1) := by decide +kernel
theorem dX6_goes_68 : decode cX6_goes 68 = .ok (.imul, 1) := by decide +kernel
theorem dX6_goes_69 : decode cX6_goes 69 = .ok (.iconst 3, 1) := by decide +kernel
theorem dX6_goes_70 : decode cX6_goes 70 = .ok (.iadd, 1) := by decide +kernel
theorem dX6_goes_71 : decode cX6_goes 71 = .ok (.iaload, 1) := by decide +kernel
theorem dX6_goes_72 : decode cX6_goes 72 = .ok (.iadd, 1) := by decide +kernel
theorem dX6_goes_73 : decode cX6_goes 73 = .ok (.iastore, 1) := by decide +kernel
theorem dX6_goes_74 : decode cX6_goes 74 = .ok (.aload_n 0, 1) := by decide +kernel
theorem dX6_goes_75 : decode cX6_goes 75 = .ok (.getfield 47, 3) := by decide +kernel
theorem dX6_goes_78 : decode cX6_goes 78 = .ok (.iconst 4, 1) := by decide +kernel
theorem dX6_goes_79 : decode cX6_goes 79 = .ok (.iload_n 1, 1) := by decide +kernel
theorem dX6_goes_80 : decode cX6_goes 80 = .ok (.imul, 1) := by decide +kernel
theorem dX6_goes_81 : decode cX6_goes 81 = .ok (.iconst 2, 1) := by decide +kernel
theorem dX6_goes_82 : decode cX6_goes 82 = .ok (.iadd, 1) := by decide +kernel
theorem dX6_goes_83 : decode cX6_goes 83 = .ok (.iconst 0, 1) := by decide +kernel
theorem dX6_goes_84 : decode cX6_goes 84 = .ok (.iastore, 1) := by decide +kernel
theorem dX6_goes_85 : decode cX6_goes 85 = .ok (.aload_n 0, 1) := by decide +kernel
theorem dX6_goes_86 : decode cX6_goes 86 = .ok (.getfield 47, 3) := by decide +kernel
theorem dX6_goes_89 : decode cX6_goes 89 = .ok (.iconst 4, 1) := by decide +kernel
theorem dX6_goes_90 : decode cX6_goes 90 = .ok (.iload_n 1, 1) := by decide +kernel
theorem dX6_goes_91 : decode cX6_goes 91 = .ok (.imul, 1) := by decide +kernel
theorem dX6_goes_92 : decode cX6_goes 92 = .ok (.iconst 3, 1) := by decide +kernel
theorem dX6_goes_93 : decode cX6_goes 93 = .ok (.iadd, 1) := by decide +kernel
theorem dX6_goes_94 : decode cX6_goes 94 = .ok (.iconst 0, 1) := by decide +kernel
theorem dX6_goes_95 : decode cX6_goes 95 = .ok (.iastore, 1) := by decide +kernel
theorem dX6_goes_96 : decode cX6_goes 96 = .ok (.iconst 1, 1) := by decide +kernel
theorem dX6_goes_97 : decode cX6_goes 97 = .ok (.ireturn, 1) := by decide +kernel
set_option maxRecDepth 20000 in
theorem ggX6_pass_X6_lies : GoodIn wsX6_pass wsX6_lies := goodIn_r _ [8] (by decide +kernel) (by decide +kernel)
set_option maxRecDepth 20000 in
theorem gX6_pass_X6_lies : GoodIn wsX6_pass (va_wsS RX6 90 yX6_lies wsX6_lies) := goodIn_app (goodIn_of _ (by decide +kernel)) ggX6_pass_X6_lies
set_option maxRecDepth 20000 in
theorem ggX6_pass_X6_fails : GoodIn wsX6_pass wsX6_fails := goodIn_r _ [12, 13, 46, 47, 48, 49, 50, 51, 52, 53, 54, 55, 56, 57, 58, 59, 60, 61, 62, 63, 64, 65, 66, 67, 68, 69, 70, 71, 72, 73] (by decide +kernel) (by decide +kernel)
set_option maxRecDepth 20000 in
theorem gX6_pass_X6_fails : GoodIn wsX6_pass (wsV RX6 97 RX6 yX6_fails wsX6_fails) := goodIn_app (goodIn_of _ (by decide +kernel)) ggX6_pass_X6_fails
set_option maxRecDepth 20000 in
theorem ggX6_pass_X6_works : GoodIn wsX6_pass wsX6_works := goodIn_r _ [17, 2, 3, 18, 19, 20, 46, 47, 48, 49, 50, 51, 52, 53, 54, 55, 56, 57, 58, 59, 60, 61, 62, 63, 64, 65, 66, 67, 68, 69, 70, 71, 72, 73] (by decide +kernel) (by decide +kernel)
set_option maxRecDepth 20000 in
theorem gX6_pass_X6_works : GoodIn wsX6_pass (wsV RX6 137 RX6 yX6_works wsX6_works) := goodIn_app (goodIn_of _ (by decide +kernel)) ggX6_pass_X6_works
set_option maxRecDepth 20000 in
theorem ggX6_pass_X6_goes : GoodIn wsX6_pass wsX6_goes := goodIn_r _ [24, 25, 4, 26, 2, 27, 20, 28, 29, 30, 7, 31, 32, 33, 34, 35, 36, 37, 18, 38, 39, 40, 41, 42, 43, 44, 45, 46, 47, 48, 49, 50, 51, 52, 53, 54, 55, 56, 57, 58, 59, 60, 61, 62, 63, 64, 65, 66, 67, 68, 69, 70, 71, 72, 73] (by decide +kernel) (by decide +kernel)
set_option maxRecDepth 20000 in
theorem gX6_pass_X6_goes : GoodIn wsX6_pass (wsV RX6 140 RX6 yX6_goes wsX6_goes) := goodIn_app (goodIn_of _ (by decide +kernel)) ggX6_pass_X6_goes
theorem dX6_pass_0 : decode cX6_pass 0 = .ok (.aload_n 0, 1) := by decide +kernel
theorem dX6_pass_1 : decode cX6_pass 1 = .ok (.iload_n 1, 1) := by decide +kernel
theorem dX6_pass_2 : decode cX6_pass 2 = .ok (.iconst 1, 1) := by decide +kernel
theorem dX6_pass_3 : decode cX6_pass 3 = .ok (.bipush 100, 2) := by decide +kernel
theorem dX6_pass_5 : decode cX6_pass 5 = .ok (.invokestatic 90, 3) := by decide +kernel
theorem dX6_pass_8 : decode cX6_pass 8 = .ok (.ifCond .eq 7, 3) := by decide +kernel
theorem dX6_pass_11 : decode cX6_pass 11 = .ok (.iconst 0, 1) := by decide +kernel
theorem dX6_pass_12 : decode cX6_pass 12 = .ok (.goto 4, 3) := by decide +kernel
theorem dX6_pass_15 : decode cX6_pass 15 = .ok (.iconst 1, 1) := by decide +kernel
theorem dX6_pass_16 : decode cX6_pass 16 = .ok (.invokevirtual 97, 3) := by decide +kernel
theorem dX6_pass_19 : decode cX6_pass 19 = .ok (.ifCond .eq 5, 3) := by decide +kernel
theorem dX6_pass_22 : decode cX6_pass 22 = .ok (.iconst 0, 1) := by decide +kernel
theorem dX6_pass_23 : decode cX6_pass 23 = .ok (.ireturn, 1) := by decide +kernel
theorem dX6_pass_24 : decode cX6_pass 24 = .ok (.iconst 0, 1) := by decide +kernel
theorem dX6_pass_25 : decode cX6_pass 25 = .ok (.istore_n 2, 1) := by decide +kernel
theorem dX6_pass_26 : decode cX6_pass 26 = .ok (.iconst 0, 1) := by decide +kernel
theorem dX6_pass_27 : decode cX6_pass 27 = .ok (.istore_n 3, 1) := by decide +kernel
theorem dX6_pass_28 : decode cX6_pass 28 = .ok (.iload_n 3, 1) := by decide +kernel
theorem dX6_pass_29 : decode cX6_pass 29 = .ok (.iload_n 1, 1) := by decide +kernel
theorem dX6_pass_30 : decode cX6_pass 30 = .ok (.if_icmp .ge 132, 3) := by decide +kernel
theorem dX6_pass_33 : decode cX6_pass 33 = .ok (.iconst 0, 1) := by decide +kernel
theorem dX6_pass_34 : decode cX6_pass 34 = .ok (.istore 4, 2) := by decide +kernel
theorem dX6_pass_36 : decode cX6_pass 36 = .ok (.iload 4, 2) := by decide +kernel
theorem dX6_pass_38 : decode cX6_pass 38 = .ok (.aload_n 0, 1) := by decide +kernel
theorem dX6_pass_39 : decode cX6_pass 39 = .ok (.getfield 87, 3) := by decide +kernel
theorem dX6_pass_42 : decode cX6_pass 42 = .ok (.if_icmp .ge 15, 3) := by decide +kernel
theorem dX6_pass_45 : decode cX6_pass 45 = .ok (.aload_n 0, 1) := by decide +kernel
theorem dX6_pass_46 : decode cX6_pass 46 = .ok (.iload 4, 2) := by decide +kernel
theorem dX6_pass_48 : decode cX6_pass 48 = .ok (.invokevirtual 137, 3) := by decide +kernel
theorem dX6_pass_51 : decode cX6_pass 51 = .ok (.iinc 4 1, 3) := by decide +kernel
theorem dX6_pass_54 : decode cX6_pass 54 = .ok (.goto (-18), 3) := by decide +kernel
theorem dX6_pass_57 : decode cX6_pass 57 = .ok (.iconst 0, 1) := by decide +kernel
theorem dX6_pass_58 : decode cX6_pass 58 = .ok (.istore 4, 2) := by decide +kernel
theorem dX6_pass_60 : decode cX6_pass 60 = .ok (.iload 4, 2) := by decide +kernel
theorem dX6_pass_62 : decode cX6_pass 62 = .ok (.aload_n 0, 1) := by decide +kernel
theorem dX6_pass_63 : decode cX6_pass 63 = .ok (.getfield 87, 3) := by decide +kernel
theorem dX6_pass_66 : decode cX6_pass 66 = .ok (.if_icmp .ge 53, 3) := by decide +kernel
theorem dX6_pass_69 : decode cX6_pass 69 = .ok (.aload_n 0, 1) := by decide +kernel
theorem dX6_pass_70 : decode cX6_pass 70 = .ok (.getfield 38, 3) := by decide +kernel
theorem dX6_pass_73 : decode cX6_pass 73 = .ok (.iload 4, 2) := by decide +kernel
theorem dX6_pass_75 : decode cX6_pass 75 = .ok (.aload_n 0, 1) := by decide +kernel
theorem dX6_pass_76 : decode cX6_pass 76 = .ok (.getfield 38, 3) := by decide +kernel
theorem dX6_pass_79 : decode cX6_pass 79 = .ok (.iload 4, 2) := by decide +kernel
theorem dX6_pass_81 : decode cX6_pass 81 = .ok (.iaload, 1) := by decide +kernel
theorem dX6_pass_82 : decode cX6_pass 82 = .ok (.iconst (-1), 1) := by decide +kernel
theorem dX6_pass_83 : decode cX6_pass 83 = .ok (.if_icmp .eq 22, 3) := by decide +kernel
theorem dX6_pass_86 : decode cX6_pass 86 = .ok (.aload_n 0, 1) := by decide +kernel
theorem dX6_pass_87 : decode cX6_pass 87 = .ok (.getfield 77, 3) := by decide +kernel
theorem dX6_pass_90 : decode cX6_pass 90 = .ok (.aload_n 0, 1) := by decide +kernel
theorem dX6_pass_91 : decode cX6_pass 91 = .ok (.getfield 38, 3) := by decide +kernel
theorem dX6_pass_94 : decode cX6_pass 94 = .ok (.iload 4, 2) := by decide +kernel
theorem dX6_pass_96 : decode cX6_pass 96 = .ok (.iaload, 1) := by decide +kernel
theorem dX6_pass_97 : decode cX6_pass 97 = .ok (.iaload, 1) := by decide +kernel
theorem dX6_pass_98 : decode cX6_pass 98 = .ok (.ifCond .ne 7, 3) := by decide +kernel
theorem dX6_pass_101 : decode cX6_pass 101 = .ok (.iconst (-1), 1) := by decide +kernel
theorem dX6_pass_102 : decode cX6_pass 102 = .ok (.goto 10, 3) := by decide +kernel
theorem dX6_pass_105 : decode cX6_pass 105 = .ok (.aload_n 0, 1) := by decide +kernel
theorem dX6_pass_106 : decode cX6_pass 106 = .ok (.getfield 38, 3) := by decide +kernel
theorem dX6_pass_109 : decode cX6_pass 109 = .ok (.iload 4, 2) := by decide +kernel
theorem dX6_pass_111 : decode cX6_pass 111 = .ok (.iaload, 1) := by decide +kernel
theorem dX6_pass_112 : decode cX6_pass 112 = .ok (.iastore, 1) := by decide +kernel
theorem dX6_pass_113 : decode cX6_pass 113 = .ok (.iinc 4 1, 3) := by decide +kernel
theorem dX6_pass_116 : decode cX6_pass 116 = .ok (.goto (-56), 3) := by decide +kernel
theorem dX6_pass_119 : decode cX6_pass 119 = .ok (.aload_n 0, 1) := by decide +kernel
theorem dX6_pass_120 : decode cX6_pass 120 = .ok (.dup, 1) := by decide +kernel
theorem dX6_pass_121 : decode cX6_pass 121 = .ok (.getfield 101, 3) := by decide +kernel
theorem dX6_pass_124 : decode cX6_pass 124 = .ok (.iconst 1, 1) := by decide +kernel
theorem dX6_pass_125 : decode cX6_pass 125 = .ok (.iadd, 1) := by decide +kernel
theorem dX6_pass_126 : decode cX6_pass 126 = .ok (.putfield 101, 3) := by decide +kernel
theorem dX6_pass_129 : decode cX6_pass 129 = .ok (.iconst 0, 1) := by decide +kernel
theorem dX6_pass_130 : decode cX6_pass 130 = .ok (.istore 4, 2) := by decide +kernel
theorem dX6_pass_132 : decode cX6_pass 132 = .ok (.iload 4, 2) := by decide +kernel
theorem dX6_pass_134 : decode cX6_pass 134 = .ok (.aload_n 0, 1) := by decide +kernel
theorem dX6_pass_135 : decode cX6_pass 135 = .ok (.getfield 87, 3) := by decide +kernel
theorem dX6_pass_138 : decode cX6_pass 138 = .ok (.if_icmp .ge 18, 3) := by decide +kernel
theorem dX6_pass_141 : decode cX6_pass 141 = .ok (.iload_n 2, 1) := by decide +kernel
theorem dX6_pass_142 : decode cX6_pass 142 = .ok (.aload_n 0, 1) := by decide +kernel
theorem dX6_pass_143 : decode cX6_pass 143 = .ok (.iload 4, 2) := by decide +kernel
theorem dX6_pass_145 : decode cX6_pass 145 = .ok (.invokevirtual 140, 3) := by decide +kernel
theorem dX6_pass_148 : decode cX6_pass 148 = .ok (.iadd, 1) := by decide +kernel
theorem dX6_pass_149 : decode cX6_pass 149 = .ok (.istore_n 2, 1) := by decide +kernel
theorem dX6_pass_150 : decode cX6_pass 150 = .ok (.iinc 4 1, 3) := by decide +kernel
theorem dX6_pass_153 : decode cX6_pass 153 = .ok (.goto (-21), 3) := by decide +kernel
theorem dX6_pass_156 : decode cX6_pass 156 = .ok (.iinc 3 1, 3) := by decide +kernel
theorem dX6_pass_159 : decode cX6_pass 159 = .ok (.goto (-131), 3) := by decide +kernel
theorem dX6_pass_162 : decode cX6_pass 162 = .ok (.iload_n 2, 1) := by decide +kernel
theorem dX6_pass_163 : decode cX6_pass 163 = .ok (.ireturn, 1) := by decide +kernel
theorem dJ9_max_7cf53_0 : decode cJ9_max_7cf53 0 = .ok (.iload_n 0, 1) := by decide +kernel
theorem dJ9_max_7cf53_1 : decode cJ9_max_7cf53 1 = .ok (.iload_n 1, 1) := by decide +kernel
theorem dJ9_max_7cf53_2 : decode cJ9_max_7cf53 2 = .ok (.if_icmp .lt 7, 3) := by decide +kernel
theorem dJ9_max_7cf53_5 : decode cJ9_max_7cf53 5 = .ok (.iload_n 0, 1) := by decide +kernel
theorem dJ9_max_7cf53_6 : decode cJ9_max_7cf53 6 = .ok (.goto 4, 3) := by decide +kernel
theorem dJ9_max_7cf53_9 : decode cJ9_max_7cf53 9 = .ok (.iload_n 1, 1) := by decide +kernel
theorem dJ9_max_7cf53_10 : decode cJ9_max_7cf53 10 = .ok (.ireturn, 1) := by decide +kernel
theorem dJ9_min_7cf53_0 : decode cJ9_min_7cf53 0 = .ok (.iload_n 0, 1) := by decide +kernel
theorem dJ9_min_7cf53_1 : decode cJ9_min_7cf53 1 = .ok (.iload_n 1, 1) := by decide +kernel
theorem dJ9_min_7cf53_2 : decode cJ9_min_7cf53 2 = .ok (.if_icmp .gt 7, 3) := by decide +kernel
theorem dJ9_min_7cf53_5 : decode cJ9_min_7cf53 5 = .ok (.iload_n 0, 1) := by decide +kernel
theorem dJ9_min_7cf53_6 : decode cJ9_min_7cf53 6 = .ok (.goto 4, 3) := by decide +kernel
theorem dJ9_min_7cf53_9 : decode cJ9_min_7cf53 9 = .ok (.iload_n 1, 1) := by decide +kernel
theorem dJ9_min_7cf53_10 : decode cJ9_min_7cf53 10 = .ok (.ireturn, 1) := by decide +kernel
set_option maxRecDepth 20000 in
theorem ggL_admit_X5_admit : GoodIn wsL_admit wsX5_admit := goodIn_ca (goodIn_ca (goodIn_r _ [7, 8, 9, 10, 11, 12, 13, 14, 15, 16, 17, 6, 18, 19, 20, 21, 22, 23, 24, 25, 26, 27, 28, 29, 30, 31, 32, 33, 34, 35, 36, 37, 38, 39, 40, 41, 42, 43, 44, 45, 46, 47, 48, 49, 50, 51, 52, 53, 54, 55, 56, 57, 58, 59, 60, 61, 62, 63, 64, 65] (by decide +kernel) (by decide +kernel)) (goodIn_sub (fun _ h => List.mem_cons_of_mem _ (List.mem_append_left _ (List.mem_append_right _ h))) (by decide +kernel))) (goodIn_sub (fun _ h => List.mem_cons_of_mem _ (List.mem_append_right _ h)) (by decide +kernel))
set_option maxRecDepth 20000 in
theorem gL_admit_X5_admit : GoodIn wsL_admit (wsV RL 7 RX5 yX5_admit wsX5_admit) := goodIn_app (goodIn_of _ (by decide +kernel)) ggL_admit_X5_admit
end
section
theorem dL_admit_0 : decode cL_admit 0 = .ok (.aload_n 3, 1) := by decide +kernel
theorem dL_admit_1 : decode cL_admit 1 = .ok (.iconst 0, 1) := by decide +kernel
theorem dL_admit_2 : decode cL_admit 2 = .ok (.aload_n 0, 1) := by decide +kernel
theorem dL_admit_3 : decode cL_admit 3 = .ok (.iload_n 1, 1) := by decide +kernel
theorem dL_admit_4 : decode cL_admit 4 = .ok (.iload_n 2, 1) := by decide +kernel
theorem dL_admit_5 : decode cL_admit 5 = .ok (.invokevirtual 7, 3) := by decide +kernel
theorem dL_admit_8 : decode cL_admit 8 = .ok (.i2l, 1) := by decide +kernel
theorem dL_admit_9 : decode cL_admit 9 = .ok (.lastore, 1) := by decide +kernel
theorem dL_admit_10 : decode cL_admit 10 = .ok (.goto 11, 3) := by decide +kernel
theorem dL_admit_13 : decode cL_admit 13 = .ok (.astore 4, 2) := by decide +kernel
theorem dL_admit_15 : decode cL_admit 15 = .ok (.iconst 1, 1) := by decide +kernel
theorem dL_admit_16 : decode cL_admit 16 = .ok (.ireturn, 1) := by decide +kernel
theorem dL_admit_17 : decode cL_admit 17 = .ok (.astore 4, 2) := by decide +kernel
theorem dL_admit_19 : decode cL_admit 19 = .ok (.iconst 2, 1) := by decide +kernel
theorem dL_admit_20 : decode cL_admit 20 = .ok (.ireturn, 1) := by decide +kernel
theorem dL_admit_21 : decode cL_admit 21 = .ok (.iconst 0, 1) := by decide +kernel
theorem dL_admit_22 : decode cL_admit 22 = .ok (.ireturn, 1) := by decide +kernel
set_option maxRecDepth 20000 in
theorem ggL_course_X5_course : GoodIn wsL_course wsX5_course := goodIn_ca (goodIn_ca (goodIn_ca (goodIn_ca (goodIn_r _ [8, 9, 10, 11, 7, 12, 13, 14, 15, 16, 17, 18, 19, 20, 21, 22, 23, 24, 25, 26, 27, 28, 29, 30, 31, 32, 33, 34, 35, 36, 37, 38, 39, 40, 41, 42, 43, 44, 45, 46, 47, 48, 49, 50, 51, 52, 53, 54, 55, 56, 57, 58, 59, 60, 61, 62, 63, 64, 65, 66, 67, 68, 69, 70, 71, 72, 73, 74, 75, 76, 77, 78, 79, 80, 81, 82, 83, 84, 85, 86] (by decide +kernel) (by decide +kernel)) (goodIn_sub (fun _ h => List.mem_cons_of_mem _ (List.mem_append_left _ (List.mem_append_left _ (List.mem_append_left _ (List.mem_append_right _ h))))) (by decide +kernel))) (goodIn_sub (fun _ h => List.mem_cons_of_mem _ (List.mem_append_left _ (List.mem_append_left _ (List.mem_append_right _ h)))) (by decide +kernel))) (goodIn_sub (fun _ h => List.mem_cons_of_mem _ (List.mem_append_left _ (List.mem_append_right _ h))) (by decide +kernel))) (goodIn_sub (fun _ h => List.mem_cons_of_mem _ (List.mem_append_right _ h)) (by decide +kernel))
set_option maxRecDepth 20000 in
theorem gL_course_X5_course : GoodIn wsL_course (wsV RL 17 RX5 yX5_course wsX5_course) := goodIn_app (goodIn_of _ (by decide +kernel)) ggL_course_X5_course
theorem dL_course_0 : decode cL_course 0 = .ok (.aload 4, 2) := by decide +kernel
theorem dL_course_2 : decode cL_course 2 = .ok (.iconst 0, 1) := by decide +kernel
theorem dL_course_3 : decode cL_course 3 = .ok (.aload_n 0, 1) := by decide +kernel
theorem dL_course_4 : decode cL_course 4 = .ok (.iload_n 1, 1) := by decide +kernel
theorem dL_course_5 : decode cL_course 5 = .ok (.iload_n 2, 1) := by decide +kernel
theorem dL_course_6 : decode cL_course 6 = .ok (.iload_n 3, 1) := by decide +kernel
theorem dL_course_7 : decode cL_course 7 = .ok (.invokevirtual 17, 3) := by decide +kernel
theorem dL_course_10 : decode cL_course 10 = .ok (.i2l, 1) := by decide +kernel
theorem dL_course_11 : decode cL_course 11 = .ok (.lastore, 1) := by decide +kernel
theorem dL_course_12 : decode cL_course 12 = .ok (.goto 15, 3) := by decide +kernel
theorem dL_course_15 : decode cL_course 15 = .ok (.astore 5, 2) := by decide +kernel
theorem dL_course_17 : decode cL_course 17 = .ok (.iconst 1, 1) := by decide +kernel
theorem dL_course_18 : decode cL_course 18 = .ok (.ireturn, 1) := by decide +kernel
theorem dL_course_19 : decode cL_course 19 = .ok (.astore 5, 2) := by decide +kernel
theorem dL_course_21 : decode cL_course 21 = .ok (.iconst 2, 1) := by decide +kernel
theorem dL_course_22 : decode cL_course 22 = .ok (.ireturn, 1) := by decide +kernel
theorem dL_course_23 : decode cL_course 23 = .ok (.astore 5, 2) := by decide +kernel
theorem dL_course_25 : decode cL_course 25 = .ok (.iconst 3, 1) := by decide +kernel
theorem dL_course_26 : decode cL_course 26 = .ok (.ireturn, 1) := by decide +kernel
theorem dL_course_27 : decode cL_course 27 = .ok (.iconst 0, 1) := by decide +kernel
theorem dL_course_28 : decode cL_course 28 = .ok (.ireturn, 1) := by decide +kernel
set_option maxRecDepth 20000 in
theorem ggL_offence_X5_offence : GoodIn wsL_offence wsX5_offence := goodIn_ca (goodIn_ca (goodIn_ca (goodIn_ca (goodIn_r _ [8, 9, 10, 11, 12, 7, 13, 14, 15, 16, 17, 18, 19, 20, 21, 22, 23, 24, 25, 26, 27, 28, 29, 30, 31, 32, 33, 34, 35, 36, 37, 38, 39, 40, 41, 42, 43, 44, 45, 46, 47, 48, 49, 50, 51, 52, 53, 54, 55, 56, 57, 58, 59, 60, 61, 62, 63, 64, 65, 66, 67, 68, 69, 70, 71, 72, 73, 74, 75, 76, 77, 78, 79, 80, 81, 82, 83, 84, 85, 86, 87, 88, 89, 90, 91, 92, 93, 94] (by decide +kernel) (by decide +kernel)) (goodIn_sub (fun _ h => List.mem_cons_of_mem _ (List.mem_append_left _ (List.mem_append_left _ (List.mem_append_left _ (List.mem_append_right _ h))))) (by decide +kernel))) (goodIn_sub (fun _ h => List.mem_cons_of_mem _ (List.mem_append_left _ (List.mem_append_left _ (List.mem_append_right _ h)))) (by decide +kernel))) (goodIn_sub (fun _ h => List.mem_cons_of_mem _ (List.mem_append_left _ (List.mem_append_right _ h))) (by decide +kernel))) (goodIn_sub (fun _ h => List.mem_cons_of_mem _ (List.mem_append_right _ h)) (by decide +kernel))
set_option maxRecDepth 20000 in
theorem gL_offence_X5_offence : GoodIn wsL_offence (wsV RL 23 RX5 yX5_offence wsX5_offence) := goodIn_app (goodIn_of _ (by decide +kernel)) ggL_offence_X5_offence
theorem dL_offence_0 : decode cL_offence 0 = .ok (.aload_n 3, 1) := by decide +kernel
theorem dL_offence_1 : decode cL_offence 1 = .ok (.iconst 0, 1) := by decide +kernel
theorem dL_offence_2 : decode cL_offence 2 = .ok (.aload_n 0, 1) := by decide +kernel
theorem dL_offence_3 : decode cL_offence 3 = .ok (.iload_n 1, 1) := by decide +kernel
theorem dL_offence_4 : decode cL_offence 4 = .ok (.iload_n 2, 1) := by decide +kernel
theorem dL_offence_5 : decode cL_offence 5 = .ok (.invokevirtual 23, 3) := by decide +kernel
theorem dL_offence_8 : decode cL_offence 8 = .ok (.i2l, 1) := by decide +kernel
theorem dL_offence_9 : decode cL_offence 9 = .ok (.lastore, 1) := by decide +kernel
theorem dL_offence_10 : decode cL_offence 10 = .ok (.goto 15, 3) := by decide +kernel
theorem dL_offence_13 : decode cL_offence 13 = .ok (.astore 4, 2) := by decide +kernel
theorem dL_offence_15 : decode cL_offence 15 = .ok (.iconst 1, 1) := by decide +kernel
theorem dL_offence_16 : decode cL_offence 16 = .ok (.ireturn, 1) := by decide +kernel
theorem dL_offence_17 : decode cL_offence 17 = .ok (.astore 4, 2) := by decide +kernel
theorem dL_offence_19 : decode cL_offence 19 = .ok (.iconst 2, 1) := by decide +kernel
theorem dL_offence_20 : decode cL_offence 20 = .ok (.ireturn, 1) := by decide +kernel
theorem dL_offence_21 : decode cL_offence 21 = .ok (.astore 4, 2) := by decide +kernel
theorem dL_offence_23 : decode cL_offence 23 = .ok (.iconst 3, 1) := by decide +kernel
theorem dL_offence_24 : decode cL_offence 24 = .ok (.ireturn, 1) := by decide +kernel
theorem dL_offence_25 : decode cL_offence 25 = .ok (.iconst 0, 1) := by decide +kernel
theorem dL_offence_26 : decode cL_offence 26 = .ok (.ireturn, 1) := by decide +kernel
set_option maxRecDepth 20000 in
theorem ggL_appeal_X5_appeal : GoodIn wsL_appeal wsX5_appeal := goodIn_ca (goodIn_ca (goodIn_r _ [7, 8, 9, 10, 11, 12, 13, 6, 14, 15, 16, 17, 18, 19, 20, 21, 22, 23, 24, 25, 26, 27, 28, 29, 30, 31, 32, 33, 34, 35, 36, 37, 38, 39, 40, 41, 42, 43, 44, 45, 46, 47, 48, 49, 50, 51, 52, 53, 54, 55, 56, 57, 58, 59, 60, 61, 62, 63, 64, 65, 66, 67, 68, 69, 70, 71, 72, 73, 74, 75, 76, 77, 78, 79, 80, 81] (by decide +kernel) (by decide +kernel)) (goodIn_sub (fun _ h => List.mem_cons_of_mem _ (List.mem_append_left _ (List.mem_append_right _ h))) (by decide +kernel))) (goodIn_sub (fun _ h => List.mem_cons_of_mem _ (List.mem_append_right _ h)) (by decide +kernel))
set_option maxRecDepth 20000 in
theorem gL_appeal_X5_appeal : GoodIn wsL_appeal (wsV RL 26 RX5 yX5_appeal wsX5_appeal) := goodIn_app (goodIn_of _ (by decide +kernel)) ggL_appeal_X5_appeal
theorem dL_appeal_0 : decode cL_appeal 0 = .ok (.aload_n 3, 1) := by decide +kernel
theorem dL_appeal_1 : decode cL_appeal 1 = .ok (.iconst 0, 1) := by decide +kernel
theorem dL_appeal_2 : decode cL_appeal 2 = .ok (.aload_n 0, 1) := by decide +kernel
theorem dL_appeal_3 : decode cL_appeal 3 = .ok (.iload_n 1, 1) := by decide +kernel
theorem dL_appeal_4 : decode cL_appeal 4 = .ok (.iload_n 2, 1) := by decide +kernel
theorem dL_appeal_5 : decode cL_appeal 5 = .ok (.invokevirtual 26, 3) := by decide +kernel
theorem dL_appeal_8 : decode cL_appeal 8 = .ok (.i2l, 1) := by decide +kernel
theorem dL_appeal_9 : decode cL_appeal 9 = .ok (.lastore, 1) := by decide +kernel
theorem dL_appeal_10 : decode cL_appeal 10 = .ok (.goto 11, 3) := by decide +kernel
theorem dL_appeal_13 : decode cL_appeal 13 = .ok (.astore 4, 2) := by decide +kernel
theorem dL_appeal_15 : decode cL_appeal 15 = .ok (.iconst 1, 1) := by decide +kernel
theorem dL_appeal_16 : decode cL_appeal 16 = .ok (.ireturn, 1) := by decide +kernel
theorem dL_appeal_17 : decode cL_appeal 17 = .ok (.astore 4, 2) := by decide +kernel
theorem dL_appeal_19 : decode cL_appeal 19 = .ok (.iconst 2, 1) := by decide +kernel
theorem dL_appeal_20 : decode cL_appeal 20 = .ok (.ireturn, 1) := by decide +kernel
theorem dL_appeal_21 : decode cL_appeal 21 = .ok (.iconst 0, 1) := by decide +kernel
theorem dL_appeal_22 : decode cL_appeal 22 = .ok (.ireturn, 1) := by decide +kernel
set_option maxRecDepth 20000 in
theorem ggL_release_X5_release : GoodIn wsL_release wsX5_release := goodIn_ca (goodIn_r _ [6, 7, 8, 9, 5, 10, 11, 12, 13, 14, 15, 16, 17, 18, 19, 20, 21, 22, 23, 24, 25, 26, 27, 28, 29, 30, 31, 32, 33, 34, 35, 36, 37, 38, 39, 40, 41, 42, 43, 44, 45, 46, 47, 48, 49, 50, 51, 52, 53] (by decide +kernel) (by decide +kernel)) (goodIn_sub (fun _ h => List.mem_cons_of_mem _ (List.mem_append_right _ h)) (by decide +kernel))
set_option maxRecDepth 20000 in
theorem gL_release_X5_release : GoodIn wsL_release (wsV RL 29 RX5 yX5_release wsX5_release) := goodIn_app (goodIn_of _ (by decide +kernel)) ggL_release_X5_release
theorem dL_release_0 : decode cL_release 0 = .ok (.aload_n 2, 1) := by decide +kernel
theorem dL_release_1 : decode cL_release 1 = .ok (.iconst 0, 1) := by decide +kernel
theorem dL_release_2 : decode cL_release 2 = .ok (.aload_n 0, 1) := by decide +kernel
theorem dL_release_3 : decode cL_release 3 = .ok (.iload_n 1, 1) := by decide +kernel
theorem dL_release_4 : decode cL_release 4 = .ok (.invokevirtual 29, 3) := by decide +kernel
theorem dL_release_7 : decode cL_release 7 = .ok (.i2l, 1) := by decide +kernel
theorem dL_release_8 : decode cL_release 8 = .ok (.lastore, 1) := by decide +kernel
theorem dL_release_9 : decode cL_release 9 = .ok (.goto 6, 3) := by decide +kernel
theorem dL_release_12 : decode cL_release 12 = .ok (.astore_n 3, 1) := by decide +kernel
theorem dL_release_13 : decode cL_release 13 = .ok (.iconst 1, 1) := by decide +kernel
theorem dL_release_14 : decode cL_release 14 = .ok (.ireturn, 1) := by decide +kernel
theorem dL_release_15 : decode cL_release 15 = .ok (.iconst 0, 1) := by decide +kernel
theorem dL_release_16 : decode cL_release 16 = .ok (.ireturn, 1) := by decide +kernel
set_option maxRecDepth 20000 in
theorem ggL_isIn_X5_isIn : GoodIn wsL_isIn wsX5_isIn := goodIn_ca (goodIn_r _ [6, 7, 8, 9, 10, 5, 11, 12, 13, 14, 15, 16, 17, 18, 19, 20, 21, 22, 23, 24, 25, 26, 27, 28, 29, 30, 31, 32, 33, 34] (by decide +kernel) (by decide +kernel)) (goodIn_sub (fun _ h => List.mem_cons_of_mem _ (List.mem_append_right _ h)) (by decide +kernel))
set_option maxRecDepth 20000 in
theorem gL_isIn_X5_isIn : GoodIn wsL_isIn (wsV RL 33 RX5 yX5_isIn wsX5_isIn) := goodIn_app (goodIn_of _ (by decide +kernel)) ggL_isIn_X5_isIn
theorem dL_isIn_0 : decode cL_isIn 0 = .ok (.aload_n 2, 1) := by decide +kernel
theorem dL_isIn_1 : decode cL_isIn 1 = .ok (.iconst 0, 1) := by decide +kernel
theorem dL_isIn_2 : decode cL_isIn 2 = .ok (.aload_n 0, 1) := by decide +kernel
theorem dL_isIn_3 : decode cL_isIn 3 = .ok (.iload_n 1, 1) := by decide +kernel
theorem dL_isIn_4 : decode cL_isIn 4 = .ok (.invokevirtual 33, 3) := by decide +kernel
theorem dL_isIn_7 : decode cL_isIn 7 = .ok (.ifCond .eq 7, 3) := by decide +kernel
theorem dL_isIn_10 : decode cL_isIn 10 = .ok (.lconst 1, 1) := by decide +kernel
theorem dL_isIn_11 : decode cL_isIn 11 = .ok (.goto 4, 3) := by decide +kernel
theorem dL_isIn_14 : decode cL_isIn 14 = .ok (.lconst 0, 1) := by decide +kernel
theorem dL_isIn_15 : decode cL_isIn 15 = .ok (.lastore, 1) := by decide +kernel
theorem dL_isIn_16 : decode cL_isIn 16 = .ok (.goto 6, 3) := by decide +kernel
theorem dL_isIn_19 : decode cL_isIn 19 = .ok (.astore_n 3, 1) := by decide +kernel
theorem dL_isIn_20 : decode cL_isIn 20 = .ok (.iconst 1, 1) := by decide +kernel
theorem dL_isIn_21 : decode cL_isIn 21 = .ok (.ireturn, 1) := by decide +kernel
theorem dL_isIn_22 : decode cL_isIn 22 = .ok (.iconst 0, 1) := by decide +kernel
theorem dL_isIn_23 : decode cL_isIn 23 = .ok (.ireturn, 1) := by decide +kernel
set_option maxRecDepth 20000 in
theorem ggL_regime_X5_regime : GoodIn wsL_regime wsX5_regime := goodIn_ca (goodIn_r _ [6, 7, 8, 9, 10, 5, 11, 12, 13, 14, 15, 16, 17, 18, 19, 20, 21, 22, 23, 24, 25, 26, 27, 28, 29, 30, 31, 32, 33, 34] (by decide +kernel) (by decide +kernel)) (goodIn_sub (fun _ h => List.mem_cons_of_mem _ (List.mem_append_right _ h)) (by decide +kernel))
set_option maxRecDepth 20000 in
theorem gL_regime_X5_regime : GoodIn wsL_regime (wsV RL 37 RX5 yX5_regime wsX5_regime) := goodIn_app (goodIn_of _ (by decide +kernel)) ggL_regime_X5_regime
theorem dL_regime_0 : decode cL_regime 0 = .ok (.aload_n 2, 1) := by decide +kernel
theorem dL_regime_1 : decode cL_regime 1 = .ok (.iconst 0, 1) := by decide +kernel
theorem dL_regime_2 : decode cL_regime 2 = .ok (.aload_n 0, 1) := by decide +kernel
theorem dL_regime_3 : decode cL_regime 3 = .ok (.iload_n 1, 1) := by decide +kernel
theorem dL_regime_4 : decode cL_regime 4 = .ok (.invokevirtual 37, 3) := by decide +kernel
theorem dL_regime_7 : decode cL_regime 7 = .ok (.i2l, 1) := by decide +kernel
theorem dL_regime_8 : decode cL_regime 8 = .ok (.lastore, 1) := by decide +kernel
theorem dL_regime_9 : decode cL_regime 9 = .ok (.goto 6, 3) := by decide +kernel
theorem dL_regime_12 : decode cL_regime 12 = .ok (.astore_n 3, 1) := by decide +kernel
theorem dL_regime_13 : decode cL_regime 13 = .ok (.iconst 1, 1) := by decide +kernel
theorem dL_regime_14 : decode cL_regime 14 = .ok (.ireturn, 1) := by decide +kernel
theorem dL_regime_15 : decode cL_regime 15 = .ok (.iconst 0, 1) := by decide +kernel
theorem dL_regime_16 : decode cL_regime 16 = .ok (.ireturn, 1) := by decide +kernel
set_option maxRecDepth 20000 in
theorem ggL_papers_X5_papers : GoodIn wsL_papers wsX5_papers := goodIn_ca (goodIn_r _ [6, 7, 8, 9, 10, 5, 11, 12, 13, 14, 15, 16, 17, 18, 19, 20, 21, 22, 23, 24, 25, 26, 27, 28, 29, 30, 31, 32, 33, 34, 35, 36, 37, 38, 39, 40, 41] (by decide +kernel) (by decide +kernel)) (goodIn_sub (fun _ h => List.mem_cons_of_mem _ (List.mem_append_right _ h)) (by decide +kernel))
set_option maxRecDepth 20000 in
theorem gL_papers_X5_papers : GoodIn wsL_papers (wsV RL 40 RX5 yX5_papers wsX5_papers) := goodIn_app (goodIn_of _ (by decide +kernel)) ggL_papers_X5_papers
theorem dL_papers_0 : decode cL_papers 0 = .ok (.aload_n 3, 1) := by decide +kernel
theorem dL_papers_1 : decode cL_papers 1 = .ok (.iconst 0, 1) := by decide +kernel
theorem dL_papers_2 : decode cL_papers 2 = .ok (.aload_n 0, 1) := by decide +kernel
theorem dL_papers_3 : decode cL_papers 3 = .ok (.iload_n 1, 1) := by decide +kernel
theorem dL_papers_4 : decode cL_papers 4 = .ok (.iload_n 2, 1) := by decide +kernel
theorem dL_papers_5 : decode cL_papers 5 = .ok (.invokevirtual 40, 3) := by decide +kernel
theorem dL_papers_8 : decode cL_papers 8 = .ok (.i2l, 1) := by decide +kernel
theorem dL_papers_9 : decode cL_papers 9 = .ok (.lastore, 1) := by decide +kernel
theorem dL_papers_10 : decode cL_papers 10 = .ok (.goto 7, 3) := by decide +kernel
theorem dL_papers_13 : decode cL_papers 13 = .ok (.astore 4, 2) := by decide +kernel
theorem dL_papers_15 : decode cL_papers 15 = .ok (.iconst 1, 1) := by decide +kernel
theorem dL_papers_16 : decode cL_papers 16 = .ok (.ireturn, 1) := by decide +kernel
theorem dL_papers_17 : decode cL_papers 17 = .ok (.iconst 0, 1) := by decide +kernel
theorem dL_papers_18 : decode cL_papers 18 = .ok (.ireturn, 1) := by decide +kernel
set_option maxRecDepth 20000 in
theorem ggL_setTools_X5_setTools : GoodIn wsL_setTools wsX5_setTools := goodIn_ca (goodIn_ca (goodIn_ca (goodIn_r _ [8, 9, 10, 11, 12, 13, 14, 15, 7, 16, 17, 18, 19, 20, 21, 22, 23, 24, 25, 26, 27, 28, 29, 30, 31, 32] (by decide +kernel) (by decide +kernel)) (goodIn_sub (fun _ h => List.mem_cons_of_mem _ (List.mem_append_left _ (List.mem_append_left _ (List.mem_append_right _ h)))) (by decide +kernel))) (goodIn_sub (fun _ h => List.mem_cons_of_mem _ (List.mem_append_left _ (List.mem_append_right _ h))) (by decide +kernel))) (goodIn_sub (fun _ h => List.mem_cons_of_mem _ (List.mem_append_right _ h)) (by decide +kernel))
set_option maxRecDepth 20000 in
theorem gL_setTools_X5_setTools : GoodIn wsL_setTools (wsV RL 44 RX5 yX5_setTools wsX5_setTools) := goodIn_app (goodIn_of _ (by decide +kernel)) ggL_setTools_X5_setTools
theorem dL_setTools_0 : decode cL_setTools 0 = .ok (.aload_n 3, 1) := by decide +kernel
theorem dL_setTools_1 : decode cL_setTools 1 = .ok (.iconst 0, 1) := by decide +kernel
theorem dL_setTools_2 : decode cL_setTools 2 = .ok (.aload_n 0, 1) := by decide +kernel
theorem dL_setTools_3 : decode cL_setTools 3 = .ok (.iload_n 1, 1) := by decide +kernel
theorem dL_setTools_4 : decode cL_setTools 4 = .ok (.iload_n 2, 1) := by decide +kernel
theorem dL_setTools_5 : decode cL_setTools 5 = .ok (.invokevirtual 44, 3) := by decide +kernel
theorem dL_setTools_8 : decode cL_setTools 8 = .ok (.i2l, 1) := by decide +kernel
theorem dL_setTools_9 : decode cL_setTools 9 = .ok (.lastore, 1) := by decide +kernel
theorem dL_setTools_10 : decode cL_setTools 10 = .ok (.goto 15, 3) := by decide +kernel
theorem dL_setTools_13 : decode cL_setTools 13 = .ok (.astore 4, 2) := by decide +kernel
theorem dL_setTools_15 : decode cL_setTools 15 = .ok (.iconst 1, 1) := by decide +kernel
theorem dL_setTools_16 : decode cL_setTools 16 = .ok (.ireturn, 1) := by decide +kernel
theorem dL_setTools_17 : decode cL_setTools 17 = .ok (.astore 4, 2) := by decide +kernel
theorem dL_setTools_19 : decode cL_setTools 19 = .ok (.iconst 2, 1) := by decide +kernel
theorem dL_setTools_20 : decode cL_setTools 20 = .ok (.ireturn, 1) := by decide +kernel
theorem dL_setTools_21 : decode cL_setTools 21 = .ok (.astore 4, 2) := by decide +kernel
theorem dL_setTools_23 : decode cL_setTools 23 = .ok (.iconst 3, 1) := by decide +kernel
theorem dL_setTools_24 : decode cL_setTools 24 = .ok (.ireturn, 1) := by decide +kernel
theorem dL_setTools_25 : decode cL_setTools 25 = .ok (.iconst 0, 1) := by decide +kernel
theorem dL_setTools_26 : decode cL_setTools 26 = .ok (.ireturn, 1) := by decide +kernel
set_option maxRecDepth 20000 in
theorem ggL_toolsOut_X5_toolsOut : GoodIn wsL_toolsOut wsX5_toolsOut := goodIn_ca (goodIn_r _ [6, 7, 8, 9, 10, 5, 11, 12, 13, 14, 15, 16, 17, 18, 19, 20, 21, 22] (by decide +kernel) (by decide +kernel)) (goodIn_sub (fun _ h => List.mem_cons_of_mem _ (List.mem_append_right _ h)) (by decide +kernel))
set_option maxRecDepth 20000 in
theorem gL_toolsOut_X5_toolsOut : GoodIn wsL_toolsOut (wsV RL 47 RX5 yX5_toolsOut wsX5_toolsOut) := goodIn_app (goodIn_of _ (by decide +kernel)) ggL_toolsOut_X5_toolsOut
theorem dL_toolsOut_0 : decode cL_toolsOut 0 = .ok (.aload_n 2, 1) := by decide +kernel
theorem dL_toolsOut_1 : decode cL_toolsOut 1 = .ok (.iconst 0, 1) := by decide +kernel
theorem dL_toolsOut_2 : decode cL_toolsOut 2 = .ok (.aload_n 0, 1) := by decide +kernel
theorem dL_toolsOut_3 : decode cL_toolsOut 3 = .ok (.iload_n 1, 1) := by decide +kernel
theorem dL_toolsOut_4 : decode cL_toolsOut 4 = .ok (.invokevirtual 47, 3) := by decide +kernel
theorem dL_toolsOut_7 : decode cL_toolsOut 7 = .ok (.i2l, 1) := by decide +kernel
theorem dL_toolsOut_8 : decode cL_toolsOut 8 = .ok (.lastore, 1) := by decide +kernel
theorem dL_toolsOut_9 : decode cL_toolsOut 9 = .ok (.goto 6, 3) := by decide +kernel
theorem dL_toolsOut_12 : decode cL_toolsOut 12 = .ok (.astore_n 3, 1) := by decide +kernel
theorem dL_toolsOut_13 : decode cL_toolsOut 13 = .ok (.iconst 1, 1) := by decide +kernel
theorem dL_toolsOut_14 : decode cL_toolsOut 14 = .ok (.ireturn, 1) := by decide +kernel
theorem dL_toolsOut_15 : decode cL_toolsOut 15 = .ok (.iconst 0, 1) := by decide +kernel
theorem dL_toolsOut_16 : decode cL_toolsOut 16 = .ok (.ireturn, 1) := by decide +kernel
set_option maxRecDepth 20000 in
theorem ggL_addOrder_X5_addOrder : GoodIn wsL_addOrder wsX5_addOrder := goodIn_ca (goodIn_ca (goodIn_ca (goodIn_r _ [8, 9, 10, 11, 12, 13, 14, 15, 16, 17, 7, 18, 19, 20, 21, 22, 23, 24, 25, 26, 27, 28, 29, 30, 31, 32, 33, 34, 35, 36, 37, 38, 39, 40, 41, 42, 43, 44, 45, 46, 47, 48, 49, 50, 51, 52, 53] (by decide +kernel) (by decide +kernel)) (goodIn_sub (fun _ h => List.mem_cons_of_mem _ (List.mem_append_left _ (List.mem_append_left _ (List.mem_append_right _ h)))) (by decide +kernel))) (goodIn_sub (fun _ h => List.mem_cons_of_mem _ (List.mem_append_left _ (List.mem_append_right _ h))) (by decide +kernel))) (goodIn_sub (fun _ h => List.mem_cons_of_mem _ (List.mem_append_right _ h)) (by decide +kernel))
set_option maxRecDepth 20000 in
theorem gL_addOrder_X5_addOrder : GoodIn wsL_addOrder (wsV RL 50 RX5 yX5_addOrder wsX5_addOrder) := goodIn_app (goodIn_of _ (by decide +kernel)) ggL_addOrder_X5_addOrder
theorem dL_addOrder_0 : decode cL_addOrder 0 = .ok (.aload 5, 2) := by decide +kernel
theorem dL_addOrder_2 : decode cL_addOrder 2 = .ok (.iconst 0, 1) := by decide +kernel
theorem dL_addOrder_3 : decode cL_addOrder 3 = .ok (.aload_n 0, 1) := by decide +kernel
theorem dL_addOrder_4 : decode cL_addOrder 4 = .ok (.iload_n 1, 1) := by decide +kernel
theorem dL_addOrder_5 : decode cL_addOrder 5 = .ok (.iload_n 2, 1) := by decide +kernel
theorem dL_addOrder_6 : decode cL_addOrder 6 = .ok (.iload_n 3, 1) := by decide +kernel
theorem dL_addOrder_7 : decode cL_addOrder 7 = .ok (.iload 4, 2) := by decide +kernel
theorem dL_addOrder_9 : decode cL_addOrder 9 = .ok (.invokevirtual 50, 3) := by decide +kernel
theorem dL_addOrder_12 : decode cL_addOrder 12 = .ok (.i2l, 1) := by decide +kernel
theorem dL_addOrder_13 : decode cL_addOrder 13 = .ok (.lastore, 1) := by decide +kernel
theorem dL_addOrder_14 : decode cL_addOrder 14 = .ok (.goto 15, 3) := by decide +kernel
theorem dL_addOrder_17 : decode cL_addOrder 17 = .ok (.astore 6, 2) := by decide +kernel
theorem dL_addOrder_19 : decode cL_addOrder 19 = .ok (.iconst 1, 1) := by decide +kernel
theorem dL_addOrder_20 : decode cL_addOrder 20 = .ok (.ireturn, 1) := by decide +kernel
theorem dL_addOrder_21 : decode cL_addOrder 21 = .ok (.astore 6, 2) := by decide +kernel
theorem dL_addOrder_23 : decode cL_addOrder 23 = .ok (.iconst 2, 1) := by decide +kernel
theorem dL_addOrder_24 : decode cL_addOrder 24 = .ok (.ireturn, 1) := by decide +kernel
theorem dL_addOrder_25 : decode cL_addOrder 25 = .ok (.astore 6, 2) := by decide +kernel
theorem dL_addOrder_27 : decode cL_addOrder 27 = .ok (.iconst 3, 1) := by decide +kernel
theorem dL_addOrder_28 : decode cL_addOrder 28 = .ok (.ireturn, 1) := by decide +kernel
theorem dL_addOrder_29 : decode cL_addOrder 29 = .ok (.iconst 0, 1) := by decide +kernel
theorem dL_addOrder_30 : decode cL_addOrder 30 = .ok (.ireturn, 1) := by decide +kernel
set_option maxRecDepth 20000 in
theorem ggL_assign_X5_assign : GoodIn wsL_assign wsX5_assign := goodIn_ca (goodIn_ca (goodIn_r _ [7, 8, 9, 10, 11, 12, 13, 14, 15, 6, 16, 17, 18, 19, 20, 21, 22, 23, 24, 25, 26, 27, 28, 29, 30, 31, 32, 33, 34, 35, 36, 37, 38, 39, 40, 41, 42, 43, 44, 45, 46, 47, 48, 49, 50, 51, 52, 53, 54, 55, 56, 57, 58, 59, 60, 61, 62, 63, 64, 65, 66, 67, 68, 69, 70, 71, 72, 73, 74, 75, 76, 77, 78, 79, 80, 81, 82, 83] (by decide +kernel) (by decide +kernel)) (goodIn_sub (fun _ h => List.mem_cons_of_mem _ (List.mem_append_left _ (List.mem_append_right _ h))) (by decide +kernel))) (goodIn_sub (fun _ h => List.mem_cons_of_mem _ (List.mem_append_right _ h)) (by decide +kernel))
set_option maxRecDepth 20000 in
theorem gL_assign_X5_assign : GoodIn wsL_assign (wsV RL 54 RX5 yX5_assign wsX5_assign) := goodIn_app (goodIn_of _ (by decide +kernel)) ggL_assign_X5_assign
theorem dL_assign_0 : decode cL_assign 0 = .ok (.aload_n 3, 1) := by decide +kernel
theorem dL_assign_1 : decode cL_assign 1 = .ok (.iconst 0, 1) := by decide +kernel
theorem dL_assign_2 : decode cL_assign 2 = .ok (.aload_n 0, 1) := by decide +kernel
theorem dL_assign_3 : decode cL_assign 3 = .ok (.iload_n 1, 1) := by decide +kernel
theorem dL_assign_4 : decode cL_assign 4 = .ok (.iload_n 2, 1) := by decide +kernel
theorem dL_assign_5 : decode cL_assign 5 = .ok (.invokevirtual 54, 3) := by decide +kernel
theorem dL_assign_8 : decode cL_assign 8 = .ok (.i2l, 1) := by decide +kernel
theorem dL_assign_9 : decode cL_assign 9 = .ok (.lastore, 1) := by decide +kernel
theorem dL_assign_10 : decode cL_assign 10 = .ok (.goto 11, 3) := by decide +kernel
theorem dL_assign_13 : decode cL_assign 13 = .ok (.astore 4, 2) := by decide +kernel
theorem dL_assign_15 : decode cL_assign 15 = .ok (.iconst 1, 1) := by decide +kernel
theorem dL_assign_16 : decode cL_assign 16 = .ok (.ireturn, 1) := by decide +kernel
theorem dL_assign_17 : decode cL_assign 17 = .ok (.astore 4, 2) := by decide +kernel
theorem dL_assign_19 : decode cL_assign 19 = .ok (.iconst 2, 1) := by decide +kernel
theorem dL_assign_20 : decode cL_assign 20 = .ok (.ireturn, 1) := by decide +kernel
theorem dL_assign_21 : decode cL_assign 21 = .ok (.iconst 0, 1) := by decide +kernel
theorem dL_assign_22 : decode cL_assign 22 = .ok (.ireturn, 1) := by decide +kernel
set_option maxRecDepth 20000 in
theorem ggL_takeOff_X5_takeOff : GoodIn wsL_takeOff wsX5_takeOff := goodIn_ca (goodIn_ca (goodIn_r _ [7, 8, 9, 10, 11, 12, 13, 14, 6, 15, 16, 17, 18, 19, 20, 21, 22, 23, 24, 25, 26, 27, 28, 29, 30, 31, 32, 33, 34, 35, 36, 37, 38, 39, 40, 41, 42, 43, 44, 45, 46, 47, 48, 49, 50, 51, 52, 53, 54, 55] (by decide +kernel) (by decide +kernel)) (goodIn_sub (fun _ h => List.mem_cons_of_mem _ (List.mem_append_left _ (List.mem_append_right _ h))) (by decide +kernel))) (goodIn_sub (fun _ h => List.mem_cons_of_mem _ (List.mem_append_right _ h)) (by decide +kernel))
set_option maxRecDepth 20000 in
theorem gL_takeOff_X5_takeOff : GoodIn wsL_takeOff (wsV RL 57 RX5 yX5_takeOff wsX5_takeOff) := goodIn_app (goodIn_of _ (by decide +kernel)) ggL_takeOff_X5_takeOff
theorem dL_takeOff_0 : decode cL_takeOff 0 = .ok (.aload_n 2, 1) := by decide +kernel
theorem dL_takeOff_1 : decode cL_takeOff 1 = .ok (.iconst 0, 1) := by decide +kernel
theorem dL_takeOff_2 : decode cL_takeOff 2 = .ok (.aload_n 0, 1) := by decide +kernel
theorem dL_takeOff_3 : decode cL_takeOff 3 = .ok (.iload_n 1, 1) := by decide +kernel
theorem dL_takeOff_4 : decode cL_takeOff 4 = .ok (.invokevirtual 57, 3) := by decide +kernel
theorem dL_takeOff_7 : decode cL_takeOff 7 = .ok (.i2l, 1) := by decide +kernel
theorem dL_takeOff_8 : decode cL_takeOff 8 = .ok (.lastore, 1) := by decide +kernel
theorem dL_takeOff_9 : decode cL_takeOff 9 = .ok (.goto 9, 3) := by decide +kernel
theorem dL_takeOff_12 : decode cL_takeOff 12 = .ok (.astore_n 3, 1) := by decide +kernel
theorem dL_takeOff_13 : decode cL_takeOff 13 = .ok (.iconst 1, 1) := by decide +kernel
theorem dL_takeOff_14 : decode cL_takeOff 14 = .ok (.ireturn, 1) := by decide +kernel
theorem dL_takeOff_15 : decode cL_takeOff 15 = .ok (.astore_n 3, 1) := by decide +kernel
theorem dL_takeOff_16 : decode cL_takeOff 16 = .ok (.iconst 2, 1) := by decide +kernel
theorem dL_takeOff_17 : decode cL_takeOff 17 = .ok (.ireturn, 1) := by decide +kernel
theorem dL_takeOff_18 : decode cL_takeOff 18 = .ok (.iconst 0, 1) := by decide +kernel
theorem dL_takeOff_19 : decode cL_takeOff 19 = .ok (.ireturn, 1) := by decide +kernel
set_option maxRecDepth 20000 in
theorem ggL_orderOf_X5_orderOf : GoodIn wsL_orderOf wsX5_orderOf := goodIn_ca (goodIn_r _ [6, 7, 8, 9, 10, 11, 5, 12, 13, 14, 15, 16, 17, 18, 19, 20, 21, 22, 23, 24, 25, 26, 27, 28, 29, 30, 31, 32, 33, 34, 35, 36, 37, 38, 39, 40, 41] (by decide +kernel) (by decide +kernel)) (goodIn_sub (fun _ h => List.mem_cons_of_mem _ (List.mem_append_right _ h)) (by decide +kernel))
set_option maxRecDepth 20000 in
theorem gL_orderOf_X5_orderOf : GoodIn wsL_orderOf (wsV RL 60 RX5 yX5_orderOf wsX5_orderOf) := goodIn_app (goodIn_of _ (by decide +kernel)) ggL_orderOf_X5_orderOf
theorem dL_orderOf_0 : decode cL_orderOf 0 = .ok (.aload_n 2, 1) := by decide +kernel
theorem dL_orderOf_1 : decode cL_orderOf 1 = .ok (.iconst 0, 1) := by decide +kernel
theorem dL_orderOf_2 : decode cL_orderOf 2 = .ok (.aload_n 0, 1) := by decide +kernel
theorem dL_orderOf_3 : decode cL_orderOf 3 = .ok (.iload_n 1, 1) := by decide +kernel
theorem dL_orderOf_4 : decode cL_orderOf 4 = .ok (.invokevirtual 60, 3) := by decide +kernel
theorem dL_orderOf_7 : decode cL_orderOf 7 = .ok (.i2l, 1) := by decide +kernel
theorem dL_orderOf_8 : decode cL_orderOf 8 = .ok (.lastore, 1) := by decide +kernel
theorem dL_orderOf_9 : decode cL_orderOf 9 = .ok (.goto 6, 3) := by decide +kernel
theorem dL_orderOf_12 : decode cL_orderOf 12 = .ok (.astore_n 3, 1) := by decide +kernel
theorem dL_orderOf_13 : decode cL_orderOf 13 = .ok (.iconst 1, 1) := by decide +kernel
theorem dL_orderOf_14 : decode cL_orderOf 14 = .ok (.ireturn, 1) := by decide +kernel
theorem dL_orderOf_15 : decode cL_orderOf 15 = .ok (.iconst 0, 1) := by decide +kernel
theorem dL_orderOf_16 : decode cL_orderOf 16 = .ok (.ireturn, 1) := by decide +kernel
set_option maxRecDepth 20000 in
theorem ggL_left_X5_left : GoodIn wsL_left wsX5_left := goodIn_ca (goodIn_r _ [6, 7, 8, 9, 10, 5, 11, 12, 13, 14, 15, 16, 17, 18, 19, 20, 21, 22, 23, 24, 25, 26] (by decide +kernel) (by decide +kernel)) (goodIn_sub (fun _ h => List.mem_cons_of_mem _ (List.mem_append_right _ h)) (by decide +kernel))
set_option maxRecDepth 20000 in
theorem gL_left_X5_left : GoodIn wsL_left (wsV RL 63 RX5 yX5_left wsX5_left) := goodIn_app (goodIn_of _ (by decide +kernel)) ggL_left_X5_left
theorem dL_left_0 : decode cL_left 0 = .ok (.aload_n 2, 1) := by decide +kernel
theorem dL_left_1 : decode cL_left 1 = .ok (.iconst 0, 1) := by decide +kernel
theorem dL_left_2 : decode cL_left 2 = .ok (.aload_n 0, 1) := by decide +kernel
theorem dL_left_3 : decode cL_left 3 = .ok (.iload_n 1, 1) := by decide +kernel
theorem dL_left_4 : decode cL_left 4 = .ok (.invokevirtual 63, 3) := by decide +kernel
theorem dL_left_7 : decode cL_left 7 = .ok (.i2l, 1) := by decide +kernel
theorem dL_left_8 : decode cL_left 8 = .ok (.lastore, 1) := by decide +kernel
theorem dL_left_9 : decode cL_left 9 = .ok (.goto 6, 3) := by decide +kernel
theorem dL_left_12 : decode cL_left 12 = .ok (.astore_n 3, 1) := by decide +kernel
theorem dL_left_13 : decode cL_left 13 = .ok (.iconst 1, 1) := by decide +kernel
theorem dL_left_14 : decode cL_left 14 = .ok (.ireturn, 1) := by decide +kernel
theorem dL_left_15 : decode cL_left 15 = .ok (.iconst 0, 1) := by decide +kernel
theorem dL_left_16 : decode cL_left 16 = .ok (.ireturn, 1) := by decide +kernel
set_option maxRecDepth 20000 in
theorem ggL_account_X5_account : GoodIn wsL_account wsX5_account := goodIn_ca (goodIn_r _ [6, 7, 8, 9, 10, 11, 12, 13, 5, 14, 15, 16, 17, 18, 19, 20, 21, 22, 23, 24, 25, 26, 27, 28, 29, 30, 31, 32, 33, 34, 35, 36, 37, 38, 39] (by decide +kernel) (by decide +kernel)) (goodIn_sub (fun _ h => List.mem_cons_of_mem _ (List.mem_append_right _ h)) (by decide +kernel))
set_option maxRecDepth 20000 in
theorem gL_account_X5_account : GoodIn wsL_account (wsV RL 66 RX5 yX5_account wsX5_account) := goodIn_app (goodIn_of _ (by decide +kernel)) ggL_account_X5_account
theorem dL_account_0 : decode cL_account 0 = .ok (.aload_n 3, 1) := by decide +kernel
theorem dL_account_1 : decode cL_account 1 = .ok (.iconst 0, 1) := by decide +kernel
theorem dL_account_2 : decode cL_account 2 = .ok (.aload_n 0, 1) := by decide +kernel
theorem dL_account_3 : decode cL_account 3 = .ok (.iload_n 1, 1) := by decide +kernel
theorem dL_account_4 : decode cL_account 4 = .ok (.iload_n 2, 1) := by decide +kernel
theorem dL_account_5 : decode cL_account 5 = .ok (.invokevirtual 66, 3) := by decide +kernel
theorem dL_account_8 : decode cL_account 8 = .ok (.i2l, 1) := by decide +kernel
theorem dL_account_9 : decode cL_account 9 = .ok (.lastore, 1) := by decide +kernel
theorem dL_account_10 : decode cL_account 10 = .ok (.goto 7, 3) := by decide +kernel
theorem dL_account_13 : decode cL_account 13 = .ok (.astore 4, 2) := by decide +kernel
theorem dL_account_15 : decode cL_account 15 = .ok (.iconst 1, 1) := by decide +kernel
theorem dL_account_16 : decode cL_account 16 = .ok (.ireturn, 1) := by decide +kernel
theorem dL_account_17 : decode cL_account 17 = .ok (.iconst 0, 1) := by decide +kernel
theorem dL_account_18 : decode cL_account 18 = .ok (.ireturn, 1) := by decide +kernel
set_option maxRecDepth 20000 in
theorem ggL_buy_X5_buy : GoodIn wsL_buy wsX5_buy := goodIn_ca (goodIn_ca (goodIn_ca (goodIn_r _ [8, 9, 10, 11, 12, 13, 14, 15, 16, 7, 17, 18, 19, 20, 21, 22, 23, 24, 25, 26, 27, 28, 29, 30, 31, 32, 33, 34, 35, 36, 37, 38, 39, 40, 41, 42, 43, 44, 45, 46, 47, 48, 49, 50, 51, 52, 53, 54, 55, 56, 57, 58, 59, 60, 61, 62, 63, 64, 65, 66, 67, 68, 69, 70, 71, 72, 73, 74, 75, 76, 77, 78, 79, 80, 81, 82, 83, 84, 85, 86, 87, 88, 89, 90, 91, 92, 93, 94] (by decide +kernel) (by decide +kernel)) (goodIn_sub (fun _ h => List.mem_cons_of_mem _ (List.mem_append_left _ (List.mem_append_left _ (List.mem_append_right _ h)))) (by decide +kernel))) (goodIn_sub (fun _ h => List.mem_cons_of_mem _ (List.mem_append_left _ (List.mem_append_right _ h))) (by decide +kernel))) (goodIn_sub (fun _ h => List.mem_cons_of_mem _ (List.mem_append_right _ h)) (by decide +kernel))
set_option maxRecDepth 20000 in
theorem gL_buy_X5_buy : GoodIn wsL_buy (wsV RL 69 RX5 yX5_buy wsX5_buy) := goodIn_app (goodIn_of _ (by decide +kernel)) ggL_buy_X5_buy
theorem dL_buy_0 : decode cL_buy 0 = .ok (.aload_n 3, 1) := by decide +kernel
theorem dL_buy_1 : decode cL_buy 1 = .ok (.iconst 0, 1) := by decide +kernel
theorem dL_buy_2 : decode cL_buy 2 = .ok (.aload_n 0, 1) := by decide +kernel
theorem dL_buy_3 : decode cL_buy 3 = .ok (.iload_n 1, 1) := by decide +kernel
theorem dL_buy_4 : decode cL_buy 4 = .ok (.iload_n 2, 1) := by decide +kernel
theorem dL_buy_5 : decode cL_buy 5 = .ok (.invokevirtual 69, 3) := by decide +kernel
theorem dL_buy_8 : decode cL_buy 8 = .ok (.i2l, 1) := by decide +kernel
theorem dL_buy_9 : decode cL_buy 9 = .ok (.lastore, 1) := by decide +kernel
theorem dL_buy_10 : decode cL_buy 10 = .ok (.goto 15, 3) := by decide +kernel
theorem dL_buy_13 : decode cL_buy 13 = .ok (.astore 4, 2) := by decide +kernel
theorem dL_buy_15 : decode cL_buy 15 = .ok (.iconst 1, 1) := by decide +kernel
theorem dL_buy_16 : decode cL_buy 16 = .ok (.ireturn, 1) := by decide +kernel
theorem dL_buy_17 : decode cL_buy 17 = .ok (.astore 4, 2) := by decide +kernel
theorem dL_buy_19 : decode cL_buy 19 = .ok (.iconst 2, 1) := by decide +kernel
theorem dL_buy_20 : decode cL_buy 20 = .ok (.ireturn, 1) := by decide +kernel
theorem dL_buy_21 : decode cL_buy 21 = .ok (.astore 4, 2) := by decide +kernel
theorem dL_buy_23 : decode cL_buy 23 = .ok (.iconst 3, 1) := by decide +kernel
theorem dL_buy_24 : decode cL_buy 24 = .ok (.ireturn, 1) := by decide +kernel
theorem dL_buy_25 : decode cL_buy 25 = .ok (.iconst 0, 1) := by decide +kernel
theorem dL_buy_26 : decode cL_buy 26 = .ok (.ireturn, 1) := by decide +kernel
set_option maxRecDepth 20000 in
theorem ggL_limit_X5_limit : GoodIn wsL_limit wsX5_limit := goodIn_ca (goodIn_r _ [6, 7, 8, 9, 10, 5, 11, 12, 13, 14, 15, 16, 17, 18, 19, 20, 21, 22, 23, 24, 25, 26, 27, 28, 29, 30, 31, 32, 33, 34, 35, 36, 37, 38, 39, 40, 41, 42, 43, 44, 45, 46, 47, 48, 49, 50, 51, 52, 53, 54, 55, 56, 57, 58, 59, 60, 61, 62, 63, 64, 65, 66, 67, 68, 69, 70, 71, 72, 73] (by decide +kernel) (by decide +kernel)) (goodIn_sub (fun _ h => List.mem_cons_of_mem _ (List.mem_append_right _ h)) (by decide +kernel))
set_option maxRecDepth 20000 in
theorem gL_limit_X5_limit : GoodIn wsL_limit (wsV RL 72 RX5 yX5_limit wsX5_limit) := goodIn_app (goodIn_of _ (by decide +kernel)) ggL_limit_X5_limit
theorem dL_limit_0 : decode cL_limit 0 = .ok (.aload_n 2, 1) := by decide +kernel
theorem dL_limit_1 : decode cL_limit 1 = .ok (.iconst 0, 1) := by decide +kernel
theorem dL_limit_2 : decode cL_limit 2 = .ok (.aload_n 0, 1) := by decide +kernel
theorem dL_limit_3 : decode cL_limit 3 = .ok (.iload_n 1, 1) := by decide +kernel
theorem dL_limit_4 : decode cL_limit 4 = .ok (.invokevirtual 72, 3) := by decide +kernel
theorem dL_limit_7 : decode cL_limit 7 = .ok (.i2l, 1) := by decide +kernel
theorem dL_limit_8 : decode cL_limit 8 = .ok (.lastore, 1) := by decide +kernel
theorem dL_limit_9 : decode cL_limit 9 = .ok (.goto 6, 3) := by decide +kernel
theorem dL_limit_12 : decode cL_limit 12 = .ok (.astore_n 3, 1) := by decide +kernel
theorem dL_limit_13 : decode cL_limit 13 = .ok (.iconst 1, 1) := by decide +kernel
theorem dL_limit_14 : decode cL_limit 14 = .ok (.ireturn, 1) := by decide +kernel
theorem dL_limit_15 : decode cL_limit 15 = .ok (.iconst 0, 1) := by decide +kernel
theorem dL_limit_16 : decode cL_limit 16 = .ok (.ireturn, 1) := by decide +kernel
set_option maxRecDepth 20000 in
theorem ggL_paidOut_X5_paidOut : GoodIn wsL_paidOut wsX5_paidOut := goodIn_ca (goodIn_r _ [6, 7, 8, 9, 10, 11, 5, 12, 13, 14, 15, 16, 17, 18, 19, 20, 21, 22, 23, 24, 25, 26, 27, 28, 29, 30, 31, 32, 33, 34, 35, 36, 37, 38, 39] (by decide +kernel) (by decide +kernel)) (goodIn_sub (fun _ h => List.mem_cons_of_mem _ (List.mem_append_right _ h)) (by decide +kernel))
set_option maxRecDepth 20000 in
theorem gL_paidOut_X5_paidOut : GoodIn wsL_paidOut (wsV RL 75 RX5 yX5_paidOut wsX5_paidOut) := goodIn_app (goodIn_of _ (by decide +kernel)) ggL_paidOut_X5_paidOut
theorem dL_paidOut_0 : decode cL_paidOut 0 = .ok (.aload_n 2, 1) := by decide +kernel
theorem dL_paidOut_1 : decode cL_paidOut 1 = .ok (.iconst 0, 1) := by decide +kernel
theorem dL_paidOut_2 : decode cL_paidOut 2 = .ok (.aload_n 0, 1) := by decide +kernel
theorem dL_paidOut_3 : decode cL_paidOut 3 = .ok (.iload_n 1, 1) := by decide +kernel
theorem dL_paidOut_4 : decode cL_paidOut 4 = .ok (.invokevirtual 75, 3) := by decide +kernel
theorem dL_paidOut_7 : decode cL_paidOut 7 = .ok (.i2l, 1) := by decide +kernel
theorem dL_paidOut_8 : decode cL_paidOut 8 = .ok (.lastore, 1) := by decide +kernel
theorem dL_paidOut_9 : decode cL_paidOut 9 = .ok (.goto 6, 3) := by decide +kernel
theorem dL_paidOut_12 : decode cL_paidOut 12 = .ok (.astore_n 3, 1) := by decide +kernel
theorem dL_paidOut_13 : decode cL_paidOut 13 = .ok (.iconst 1, 1) := by decide +kernel
theorem dL_paidOut_14 : decode cL_paidOut 14 = .ok (.ireturn, 1) := by decide +kernel
theorem dL_paidOut_15 : decode cL_paidOut 15 = .ok (.iconst 0, 1) := by decide +kernel
theorem dL_paidOut_16 : decode cL_paidOut 16 = .ok (.ireturn, 1) := by decide +kernel
set_option maxRecDepth 20000 in
theorem ggL_pass_X5_pass : GoodIn wsL_pass wsX5_pass := goodIn_ca (goodIn_r _ [6, 7, 8, 9, 5, 10, 11, 12, 13, 14, 15, 16, 17, 18, 19, 20, 21, 22, 23, 24, 25, 26, 27, 28, 29, 30, 31, 32, 33, 34, 35, 36, 37, 38, 39, 40, 41, 42, 43, 44, 45, 46, 47, 48, 49, 50, 51, 52, 53, 54, 55, 56, 57, 58, 59, 60, 61, 62, 63, 64, 65, 66, 67, 68, 69, 70, 71, 72, 73, 74, 75, 76, 77, 78, 79, 80, 81, 82, 83, 84, 85, 86, 87, 88, 89, 90, 91, 92, 93, 94, 95, 96, 97, 98, 99, 100, 101, 102, 103, 104, 105, 106, 107, 108, 109, 110, 111, 112, 113, 114, 115, 116, 117] (by decide +kernel) (by decide +kernel)) (goodIn_sub (fun _ h => List.mem_cons_of_mem _ (List.mem_append_right _ h)) (by decide +kernel))
set_option maxRecDepth 20000 in
theorem gL_pass_X5_pass : GoodIn wsL_pass (wsV RL 78 RX5 yX5_pass wsX5_pass) := goodIn_app (goodIn_of _ (by decide +kernel)) ggL_pass_X5_pass
theorem dL_pass_0 : decode cL_pass 0 = .ok (.aload_n 2, 1) := by decide +kernel
theorem dL_pass_1 : decode cL_pass 1 = .ok (.iconst 0, 1) := by decide +kernel
theorem dL_pass_2 : decode cL_pass 2 = .ok (.aload_n 0, 1) := by decide +kernel
theorem dL_pass_3 : decode cL_pass 3 = .ok (.iload_n 1, 1) := by decide +kernel
theorem dL_pass_4 : decode cL_pass 4 = .ok (.invokevirtual 78, 3) := by decide +kernel
theorem dL_pass_7 : decode cL_pass 7 = .ok (.i2l, 1) := by decide +kernel
theorem dL_pass_8 : decode cL_pass 8 = .ok (.lastore, 1) := by decide +kernel
theorem dL_pass_9 : decode cL_pass 9 = .ok (.goto 6, 3) := by decide +kernel
theorem dL_pass_12 : decode cL_pass 12 = .ok (.astore_n 3, 1) := by decide +kernel
theorem dL_pass_13 : decode cL_pass 13 = .ok (.iconst 1, 1) := by decide +kernel
theorem dL_pass_14 : decode cL_pass 14 = .ok (.ireturn, 1) := by decide +kernel
theorem dL_pass_15 : decode cL_pass 15 = .ok (.iconst 0, 1) := by decide +kernel
theorem dL_pass_16 : decode cL_pass 16 = .ok (.ireturn, 1) := by decide +kernel
set_option maxRecDepth 20000 in
theorem ggL_law_X5_init : GoodIn wsL_law wsX5_init := goodIn_r _ [9, 10, 11, 12, 13, 14, 15, 16, 17, 18, 19, 20, 21, 22, 23, 563, 564, 565, 566, 567, 568, 597, 598] (by decide +kernel) (by decide +kernel)
set_option maxRecDepth 20000 in
theorem gL_law_X5_init : GoodIn wsL_law (wsX5_init) := ggL_law_X5_init
set_option maxRecDepth 20000 in
theorem ggL_law_X6_init : GoodIn wsL_law wsX6_init := goodIn_r _ [26, 27, 11, 12, 28, 29, 30, 31, 32, 33, 34, 35, 36, 37, 38, 39, 40, 41, 42, 43, 44, 45, 46, 47, 48, 49, 50, 51, 52, 53, 569, 570, 571, 572, 573, 574, 575, 576, 577, 578, 579, 580, 581, 582, 583, 584, 585, 586, 587, 588, 589, 590, 591, 592, 593, 594, 595, 596] (by decide +kernel) (by decide +kernel)
set_option maxRecDepth 20000 in
theorem gL_law_X6_init : GoodIn wsL_law (wsX6_init) := ggL_law_X6_init
set_option maxRecDepth 20000 in
theorem ggL_law_L_admit : GoodIn wsL_law wsL_admit := goodIn_ca (goodIn_ca (goodIn_r _ [57, 58, 59, 60, 61, 62, 2, 63, 64, 65, 66, 14, 13, 67, 68, 69, 70, 71, 72, 73, 74, 75, 76, 77, 78, 11, 12, 79, 80, 81, 82, 83, 84, 85, 86, 87, 88, 89, 90, 91, 30, 92, 563, 564, 565, 566, 567, 568, 599, 600, 601, 602, 603, 604, 605, 606, 607, 608, 609, 610, 611, 612, 613, 614, 615, 616] (by decide +kernel) (by decide +kernel)) (goodIn_sub (fun _ h => List.mem_append_left _ (List.mem_append_left _ (List.mem_append_left _ (List.mem_append_right _ h)))) (by decide +kernel))) (goodIn_sub (fun _ h => List.mem_append_left _ (List.mem_append_left _ (List.mem_append_right _ h))) (by decide +kernel))
set_option maxRecDepth 20000 in
theorem gL_law_L_admit : GoodIn wsL_law (va_wsS RL 85 yL_admit wsL_admit) := goodIn_app (goodIn_of _ (by decide +kernel)) ggL_law_L_admit
set_option maxRecDepth 20000 in
theorem ggL_law_X6_admit : GoodIn wsL_law wsX6_admit := goodIn_r _ [96, 97, 31, 98, 32, 33, 34, 39, 99, 100, 5, 101, 102, 103, 104, 105, 106, 569, 570, 571, 572, 573, 574, 575, 576, 577, 578, 579, 580, 581, 582, 583, 584, 585, 586, 587, 588, 589, 590, 591, 592, 593, 594, 595, 596] (by decide +kernel) (by decide +kernel)
set_option maxRecDepth 20000 in
theorem gL_law_X6_admit : GoodIn wsL_law (wsV RL 90 RX6 yX6_admit wsX6_admit) := goodIn_app (goodIn_of _ (by decide +kernel)) ggL_law_X6_admit
set_option maxRecDepth 20000 in
theorem ggL_law_X6_thrown : GoodIn wsL_law wsX6_thrown := goodIn_r _ [110, 106, 569, 570, 571, 572, 573, 574, 575, 576, 577, 578, 579, 580, 581, 582, 583, 584, 585, 586, 587, 588, 589, 590, 591, 592, 593, 594, 595, 596] (by decide +kernel) (by decide +kernel)
set_option maxRecDepth 20000 in
theorem gL_law_X6_thrown : GoodIn wsL_law (wsV RL 91 RX6 yX6_thrown wsX6_thrown) := goodIn_app (goodIn_of _ (by decide +kernel)) ggL_law_X6_thrown
set_option maxRecDepth 20000 in
theorem ggL_law_L_course : GoodIn wsL_law wsL_course := goodIn_ca (goodIn_ca (goodIn_ca (goodIn_ca (goodIn_r _ [113, 114, 58, 59, 115, 116, 117, 2, 118, 119, 120, 121, 122, 123, 124, 14, 125, 126, 127, 70, 71, 72, 73, 74, 128, 129, 130, 64, 65, 131, 132, 133, 134, 68, 135, 136, 88, 137, 138, 139, 140, 141, 142, 143, 144, 145, 146, 147, 79, 148, 149, 150, 151, 152, 153, 154, 155, 156, 157, 86, 87, 158, 159, 160, 161, 162, 163, 563, 564, 565, 566, 567, 568, 599, 600, 601, 602, 603, 604, 605, 606, 607, 608, 609, 610, 611, 612] (by decide +kernel) (by decide +kernel)) (goodIn_sub (fun _ h => List.mem_append_left _ (List.mem_append_right _ h)) (by decide +kernel))) (goodIn_sub (fun _ h => List.mem_append_left _ (List.mem_append_left _ (List.mem_append_right _ h))) (by decide +kernel))) (goodIn_sub (fun _ h => List.mem_append_left _ (List.mem_append_left _ (List.mem_append_left _ (List.mem_append_right _ h)))) (by decide +kernel))) (goodIn_sub (fun _ h => List.mem_append_right _ h) (by decide +kernel))
set_option maxRecDepth 20000 in
theorem gL_law_L_course : GoodIn wsL_law (va_wsS RL 95 yL_course wsL_course) := goodIn_app (goodIn_of _ (by decide +kernel)) ggL_law_L_course
set_option maxRecDepth 20000 in
theorem ggL_law_X6_course : GoodIn wsL_law wsX6_course := goodIn_r _ [167, 29, 37, 33, 36, 168, 169, 170, 5, 171, 97, 99, 100, 101, 102, 103, 104, 105, 106, 172, 173, 174, 175, 34, 176, 177, 178, 179, 32, 40, 31, 180, 181, 182, 183, 35, 184, 185, 186, 187, 38, 48, 45, 569, 570, 571, 572, 573, 574, 575, 576, 577, 578, 579, 580, 581, 582, 583, 584, 585, 586, 587, 588, 589, 590, 591, 592, 593, 594, 595, 596] (by decide +kernel) (by decide +kernel)
set_option maxRecDepth 20000 in
theorem gL_law_X6_course : GoodIn wsL_law (wsV RL 98 RX6 yX6_course wsX6_course) := goodIn_app (goodIn_of _ (by decide +kernel)) ggL_law_X6_course
set_option maxRecDepth 20000 in
theorem ggL_law_L_offence : GoodIn wsL_law wsL_offence := goodIn_ca (goodIn_ca (goodIn_ca (goodIn_ca (goodIn_r _ [190, 114, 58, 59, 191, 192, 193, 2, 194, 69, 119, 120, 121, 122, 123, 124, 14, 70, 71, 72, 73, 74, 128, 129, 130, 64, 65, 131, 195, 196, 197, 68, 198, 136, 143, 81, 79, 80, 199, 200, 158, 139, 140, 141, 142, 137, 201, 202, 203, 204, 11, 12, 205, 206, 207, 208, 209, 210, 211, 212, 213, 214, 215, 563, 564, 565, 566, 567, 568, 599, 600, 601, 602, 603, 604, 605, 606, 607, 608, 609, 610, 611, 612, 617, 618, 619, 620, 621, 622, 623, 624, 625, 626, 597, 598] (by decide +kernel) (by decide +kernel)) (goodIn_sub (fun _ h => List.mem_append_left _ (List.mem_append_right _ h)) (by decide +kernel))) (goodIn_sub (fun _ h => List.mem_append_left _ (List.mem_append_left _ (List.mem_append_right _ h))) (by decide +kernel))) (goodIn_sub (fun _ h => List.mem_append_left _ (List.mem_append_left _ (List.mem_append_left _ (List.mem_append_right _ h)))) (by decide +kernel))) (goodIn_sub (fun _ h => List.mem_append_right _ h) (by decide +kernel))
set_option maxRecDepth 20000 in
theorem gL_law_L_offence : GoodIn wsL_law (va_wsS RL 99 yL_offence wsL_offence) := goodIn_app (goodIn_of _ (by decide +kernel)) ggL_law_L_offence
set_option maxRecDepth 20000 in
theorem ggL_law_X6_offence : GoodIn wsL_law wsX6_offence := goodIn_r _ [219, 29, 37, 38, 45, 46, 98, 47, 34, 48, 39, 168, 169, 170, 5, 171, 97, 99, 100, 101, 102, 103, 104, 105, 106, 569, 570, 571, 572, 573, 574, 575, 576, 577, 578, 579, 580, 581, 582, 583, 584, 585, 586, 587, 588, 589, 590, 591, 592, 593, 594, 595, 596] (by decide +kernel) (by decide +kernel)
set_option maxRecDepth 20000 in
theorem gL_law_X6_offence : GoodIn wsL_law (wsV RL 101 RX6 yX6_offence wsX6_offence) := goodIn_app (goodIn_of _ (by decide +kernel)) ggL_law_X6_offence
set_option maxRecDepth 20000 in
theorem ggL_law_L_appeal : GoodIn wsL_law wsL_appeal := goodIn_ca (goodIn_ca (goodIn_r _ [222, 114, 59, 223, 224, 225, 2, 226, 64, 65, 227, 119, 120, 121, 122, 123, 124, 14, 228, 229, 230, 231, 128, 129, 130, 131, 232, 233, 234, 68, 235, 236, 158, 237, 238, 144, 145, 146, 147, 79, 148, 149, 150, 151, 152, 153, 154, 155, 156, 157, 86, 87, 159, 160, 161, 162, 163, 138, 617, 618, 619, 620, 563, 564, 565, 566, 567, 568, 599, 600, 601, 602, 603, 604, 605, 606, 607, 608, 609, 610, 611, 612] (by decide +kernel) (by decide +kernel)) (goodIn_sub (fun _ h => List.mem_append_left _ (List.mem_append_left _ (List.mem_append_left _ (List.mem_append_right _ h)))) (by decide +kernel))) (goodIn_sub (fun _ h => List.mem_append_left _ (List.mem_append_right _ h)) (by decide +kernel))
set_option maxRecDepth 20000 in
theorem gL_law_L_appeal : GoodIn wsL_law (va_wsS RL 102 yL_appeal wsL_appeal) := goodIn_app (goodIn_of _ (by decide +kernel)) ggL_law_L_appeal
set_option maxRecDepth 20000 in
theorem ggL_law_X6_appeal : GoodIn wsL_law wsX6_appeal := goodIn_r _ [242, 38, 29, 48, 47, 168, 169, 170, 5, 171, 97, 99, 100, 101, 102, 103, 104, 105, 106, 172, 173, 174, 175, 34, 176, 177, 178, 179, 32, 40, 31, 180, 181, 182, 183, 35, 36, 184, 185, 186, 187, 45, 569, 570, 571, 572, 573, 574, 575, 576, 577, 578, 579, 580, 581, 582, 583, 584, 585, 586, 587, 588, 589, 590, 591, 592, 593, 594, 595, 596] (by decide +kernel) (by decide +kernel)
set_option maxRecDepth 20000 in
theorem gL_law_X6_appeal : GoodIn wsL_law (wsV RL 104 RX6 yX6_appeal wsX6_appeal) := goodIn_app (goodIn_of _ (by decide +kernel)) ggL_law_X6_appeal
set_option maxRecDepth 20000 in
theorem ggL_law_L_release : GoodIn wsL_law wsL_release := goodIn_ca (goodIn_r _ [245, 114, 246, 247, 248, 2, 249, 119, 120, 121, 122, 123, 124, 14, 152, 153, 154, 68, 155, 156, 157, 86, 87, 148, 149, 150, 151, 158, 159, 160, 161, 162, 163, 138, 563, 564, 565, 566, 567, 568, 599, 600, 601, 602, 603, 604, 605, 606, 607, 608, 609, 610, 611, 612] (by decide +kernel) (by decide +kernel)) (goodIn_sub (fun _ h => List.mem_append_left _ (List.mem_append_right _ h)) (by decide +kernel))
set_option maxRecDepth 20000 in
theorem gL_law_L_release : GoodIn wsL_law (va_wsS RL 105 yL_release wsL_release) := goodIn_app (goodIn_of _ (by decide +kernel)) ggL_law_L_release
set_option maxRecDepth 20000 in
theorem ggL_law_X6_release : GoodIn wsL_law wsX6_release := goodIn_r _ [253, 168, 169, 170, 5, 171, 97, 99, 100, 101, 102, 103, 104, 105, 106, 176, 177, 178, 179, 32, 29, 40, 31, 180, 181, 182, 183, 35, 36, 184, 185, 186, 187, 38, 48, 45, 569, 570, 571, 572, 573, 574, 575, 576, 577, 578, 579, 580, 581, 582, 583, 584, 585, 586, 587, 588, 589, 590, 591, 592, 593, 594, 595, 596] (by decide +kernel) (by decide +kernel)
set_option maxRecDepth 20000 in
theorem gL_law_X6_release : GoodIn wsL_law (wsV RL 108 RX6 yX6_release wsX6_release) := goodIn_app (goodIn_of _ (by decide +kernel)) ggL_law_X6_release
set_option maxRecDepth 20000 in
theorem ggL_law_L_isIn : GoodIn wsL_law wsL_isIn := goodIn_ca (goodIn_r _ [256, 114, 257, 258, 259, 2, 260, 131, 119, 120, 121, 122, 123, 124, 14, 599, 600, 601, 602, 603, 604, 605, 606, 607, 608, 609, 610, 611, 612, 563, 564, 565, 566, 567, 568] (by decide +kernel) (by decide +kernel)) (goodIn_sub (fun _ h => List.mem_append_left _ (List.mem_append_right _ h)) (by decide +kernel))
set_option maxRecDepth 20000 in
theorem gL_law_L_isIn : GoodIn wsL_law (va_wsS RL 109 yL_isIn wsL_isIn) := goodIn_app (goodIn_of _ (by decide +kernel)) ggL_law_L_isIn
set_option maxRecDepth 20000 in
theorem ggL_law_X6_isIn : GoodIn wsL_law wsX6_isIn := goodIn_r _ [264, 29, 168, 169, 170, 5, 171, 97, 99, 100, 101, 102, 103, 104, 105, 106, 569, 570, 571, 572, 573, 574, 575, 576, 577, 578, 579, 580, 581, 582, 583, 584, 585, 586, 587, 588, 589, 590, 591, 592, 593, 594, 595, 596] (by decide +kernel) (by decide +kernel)
set_option maxRecDepth 20000 in
theorem gL_law_X6_isIn : GoodIn wsL_law (wsV RL 111 RX6 yX6_isIn wsX6_isIn) := goodIn_app (goodIn_of _ (by decide +kernel)) ggL_law_X6_isIn
set_option maxRecDepth 20000 in
theorem ggL_law_L_regime : GoodIn wsL_law wsL_regime := goodIn_ca (goodIn_r _ [267, 114, 268, 269, 270, 2, 271, 272, 119, 120, 121, 122, 123, 124, 14, 599, 600, 601, 602, 603, 604, 605, 606, 607, 608, 609, 610, 611, 612, 563, 564, 565, 566, 567, 568] (by decide +kernel) (by decide +kernel)) (goodIn_sub (fun _ h => List.mem_append_left _ (List.mem_append_right _ h)) (by decide +kernel))
set_option maxRecDepth 20000 in
theorem gL_law_L_regime : GoodIn wsL_law (va_wsS RL 112 yL_regime wsL_regime) := goodIn_app (goodIn_of _ (by decide +kernel)) ggL_law_L_regime
set_option maxRecDepth 20000 in
theorem ggL_law_X6_regime : GoodIn wsL_law wsX6_regime := goodIn_r _ [276, 34, 277, 278, 279, 5, 280, 168, 169, 170, 171, 97, 99, 100, 101, 102, 103, 104, 105, 106, 569, 570, 571, 572, 573, 574, 575, 576, 577, 578, 579, 580, 581, 582, 583, 584, 585, 586, 587, 588, 589, 590, 591, 592, 593, 594, 595, 596] (by decide +kernel) (by decide +kernel)
set_option maxRecDepth 20000 in
theorem gL_law_X6_regime : GoodIn wsL_law (wsV RL 114 RX6 yX6_regime wsX6_regime) := goodIn_app (goodIn_of _ (by decide +kernel)) ggL_law_X6_regime
set_option maxRecDepth 20000 in
theorem ggL_law_L_papers : GoodIn wsL_law wsL_papers := goodIn_ca (goodIn_r _ [283, 114, 284, 285, 286, 2, 287, 288, 119, 120, 121, 122, 123, 124, 14, 289, 160, 161, 68, 162, 163, 138, 599, 600, 601, 602, 603, 604, 605, 606, 607, 608, 609, 610, 611, 612, 563, 564, 565, 566, 567, 568] (by decide +kernel) (by decide +kernel)) (goodIn_sub (fun _ h => List.mem_append_left _ (List.mem_append_right _ h)) (by decide +kernel))
set_option maxRecDepth 20000 in
theorem gL_law_L_papers : GoodIn wsL_law (va_wsS RL 115 yL_papers wsL_papers) := goodIn_app (goodIn_of _ (by decide +kernel)) ggL_law_L_papers
set_option maxRecDepth 20000 in
theorem ggL_law_X6_papers : GoodIn wsL_law wsX6_papers := goodIn_r _ [293, 168, 169, 170, 5, 171, 97, 99, 100, 101, 102, 103, 104, 105, 106, 184, 185, 186, 187, 38, 48, 45, 180, 181, 182, 183, 35, 36, 569, 570, 571, 572, 573, 574, 575, 576, 577, 578, 579, 580, 581, 582, 583, 584, 585, 586, 587, 588, 589, 590, 591, 592, 593, 594, 595, 596] (by decide +kernel) (by decide +kernel)
set_option maxRecDepth 20000 in
theorem gL_law_X6_papers : GoodIn wsL_law (wsV RL 118 RX6 yX6_papers wsX6_papers) := goodIn_app (goodIn_of _ (by decide +kernel)) ggL_law_X6_papers
set_option maxRecDepth 20000 in
theorem ggL_law_L_setTools : GoodIn wsL_law wsL_setTools := goodIn_ca (goodIn_ca (goodIn_ca (goodIn_r _ [296, 114, 58, 59, 297, 298, 299, 2, 300, 64, 65, 301, 302, 303, 304, 305, 306, 123, 124, 18, 70, 71, 72, 73, 74, 597, 598, 563, 564, 565, 566, 567, 568] (by decide +kernel) (by decide +kernel)) (goodIn_sub (fun _ h => List.mem_append_left _ (List.mem_append_left _ (List.mem_append_left _ (List.mem_append_right _ h)))) (by decide +kernel))) (goodIn_sub (fun _ h => List.mem_append_left _ (List.mem_append_right _ h)) (by decide +kernel))) (goodIn_sub (fun _ h => List.mem_append_left _ (List.mem_append_left _ (List.mem_append_right _ h))) (by decide +kernel))
set_option maxRecDepth 20000 in
theorem gL_law_L_setTools : GoodIn wsL_law (va_wsS RL 119 yL_setTools wsL_setTools) := goodIn_app (goodIn_of _ (by decide +kernel)) ggL_law_L_setTools
set_option maxRecDepth 20000 in
theorem ggL_law_X6_setTools : GoodIn wsL_law wsX6_setTools := goodIn_r _ [310, 49, 311, 312, 5, 313, 99, 100, 101, 314, 315, 316, 317, 97, 39, 51, 102, 103, 104, 105, 106, 569, 570, 571, 572, 573, 574, 575, 576, 577, 578, 579, 580, 581, 582, 583, 584, 585, 586, 587, 588, 589, 590, 591, 592, 593, 594, 595, 596] (by decide +kernel) (by decide +kernel)
set_option maxRecDepth 20000 in
theorem gL_law_X6_setTools : GoodIn wsL_law (wsV RL 121 RX6 yX6_setTools wsX6_setTools) := goodIn_app (goodIn_of _ (by decide +kernel)) ggL_law_X6_setTools
set_option maxRecDepth 20000 in
theorem ggL_law_L_toolsOut : GoodIn wsL_law wsL_toolsOut := goodIn_ca (goodIn_r _ [320, 114, 321, 322, 323, 2, 324, 301, 303, 304, 305, 306, 123, 124, 18, 597, 598, 563, 564, 565, 566, 567, 568] (by decide +kernel) (by decide +kernel)) (goodIn_sub (fun _ h => List.mem_append_left _ (List.mem_append_right _ h)) (by decide +kernel))
set_option maxRecDepth 20000 in
theorem gL_law_L_toolsOut : GoodIn wsL_law (va_wsS RL 122 yL_toolsOut wsL_toolsOut) := goodIn_app (goodIn_of _ (by decide +kernel)) ggL_law_L_toolsOut
set_option maxRecDepth 20000 in
theorem ggL_law_X6_toolsOut : GoodIn wsL_law wsX6_toolsOut := goodIn_r _ [328, 311, 312, 5, 313, 99, 100, 101, 102, 103, 104, 105, 106, 314, 315, 316, 317, 97, 39, 51, 569, 570, 571, 572, 573, 574, 575, 576, 577, 578, 579, 580, 581, 582, 583, 584, 585, 586, 587, 588, 589, 590, 591, 592, 593, 594, 595, 596] (by decide +kernel) (by decide +kernel)
set_option maxRecDepth 20000 in
theorem gL_law_X6_toolsOut : GoodIn wsL_law (wsV RL 124 RX6 yX6_toolsOut wsX6_toolsOut) := goodIn_app (goodIn_of _ (by decide +kernel)) ggL_law_X6_toolsOut
set_option maxRecDepth 20000 in
theorem ggL_law_L_addOrder : GoodIn wsL_law wsL_addOrder := goodIn_ca (goodIn_ca (goodIn_ca (goodIn_r _ [331, 114, 58, 59, 332, 333, 334, 2, 335, 64, 65, 336, 16, 15, 337, 338, 125, 126, 127, 123, 124, 303, 304, 305, 306, 18, 70, 71, 72, 73, 74, 339, 340, 341, 342, 11, 12, 343, 344, 345, 346, 347, 563, 564, 565, 566, 567, 568, 621, 622, 623, 624, 625, 626] (by decide +kernel) (by decide +kernel)) (goodIn_sub (fun _ h => List.mem_append_left _ (List.mem_append_left _ (List.mem_append_left _ (List.mem_append_right _ h)))) (by decide +kernel))) (goodIn_sub (fun _ h => List.mem_append_left _ (List.mem_append_right _ h)) (by decide +kernel))) (goodIn_sub (fun _ h => List.mem_append_left _ (List.mem_append_left _ (List.mem_append_right _ h))) (by decide +kernel))
set_option maxRecDepth 20000 in
theorem gL_law_L_addOrder : GoodIn wsL_law (va_wsS RL 125 yL_addOrder wsL_addOrder) := goodIn_app (goodIn_of _ (by decide +kernel)) ggL_law_L_addOrder
set_option maxRecDepth 20000 in
theorem ggL_law_X6_addOrder : GoodIn wsL_law wsX6_addOrder := goodIn_r _ [351, 352, 50, 51, 52, 53, 99, 100, 5, 101, 311, 312, 313, 102, 103, 104, 105, 106, 569, 570, 571, 572, 573, 574, 575, 576, 577, 578, 579, 580, 581, 582, 583, 584, 585, 586, 587, 588, 589, 590, 591, 592, 593, 594, 595, 596] (by decide +kernel) (by decide +kernel)
set_option maxRecDepth 20000 in
theorem gL_law_X6_addOrder : GoodIn wsL_law (wsV RL 128 RX6 yX6_addOrder wsX6_addOrder) := goodIn_app (goodIn_of _ (by decide +kernel)) ggL_law_X6_addOrder
set_option maxRecDepth 20000 in
theorem ggL_law_L_assign : GoodIn wsL_law wsL_assign := goodIn_ca (goodIn_ca (goodIn_r _ [355, 114, 59, 356, 357, 358, 2, 359, 64, 65, 360, 361, 362, 119, 120, 121, 122, 123, 124, 14, 363, 364, 365, 366, 16, 128, 129, 130, 131, 367, 368, 369, 68, 370, 88, 371, 372, 373, 338, 374, 346, 375, 376, 377, 378, 345, 379, 380, 381, 382, 383, 384, 212, 213, 214, 215, 599, 600, 601, 602, 603, 604, 605, 606, 607, 608, 609, 610, 611, 612, 621, 622, 623, 624, 625, 626, 563, 564, 565, 566, 567, 568, 597, 598] (by decide +kernel) (by decide +kernel)) (goodIn_sub (fun _ h => List.mem_append_left _ (List.mem_append_left _ (List.mem_append_left _ (List.mem_append_right _ h)))) (by decide +kernel))) (goodIn_sub (fun _ h => List.mem_append_left _ (List.mem_append_right _ h)) (by decide +kernel))
set_option maxRecDepth 20000 in
theorem gL_law_L_assign : GoodIn wsL_law (va_wsS RL 129 yL_assign wsL_assign) := goodIn_app (goodIn_of _ (by decide +kernel)) ggL_law_L_assign
set_option maxRecDepth 20000 in
theorem ggL_law_X6_assign : GoodIn wsL_law wsX6_assign := goodIn_r _ [388, 29, 39, 33, 50, 52, 51, 49, 97, 168, 169, 170, 5, 171, 99, 100, 101, 389, 390, 391, 392, 352, 314, 315, 316, 317, 102, 103, 104, 105, 106, 569, 570, 571, 572, 573, 574, 575, 576, 577, 578, 579, 580, 581, 582, 583, 584, 585, 586, 587, 588, 589, 590, 591, 592, 593, 594, 595, 596] (by decide +kernel) (by decide +kernel)
set_option maxRecDepth 20000 in
theorem gL_law_X6_assign : GoodIn wsL_law (wsV RL 131 RX6 yX6_assign wsX6_assign) := goodIn_app (goodIn_of _ (by decide +kernel)) ggL_law_X6_assign
set_option maxRecDepth 20000 in
theorem ggL_law_L_takeOff : GoodIn wsL_law wsL_takeOff := goodIn_ca (goodIn_ca (goodIn_r _ [395, 114, 59, 396, 397, 398, 2, 399, 64, 65, 360, 400, 119, 120, 121, 122, 123, 124, 14, 401, 209, 210, 68, 211, 212, 213, 214, 215, 599, 600, 601, 602, 603, 604, 605, 606, 607, 608, 609, 610, 611, 612, 621, 622, 623, 624, 625, 626, 563, 564, 565, 566, 567, 568, 597, 598] (by decide +kernel) (by decide +kernel)) (goodIn_sub (fun _ h => List.mem_append_left _ (List.mem_append_left _ (List.mem_append_left _ (List.mem_append_right _ h)))) (by decide +kernel))) (goodIn_sub (fun _ h => List.mem_append_left _ (List.mem_append_right _ h)) (by decide +kernel))
set_option maxRecDepth 20000 in
theorem gL_law_L_takeOff : GoodIn wsL_law (va_wsS RL 132 yL_takeOff wsL_takeOff) := goodIn_app (goodIn_of _ (by decide +kernel)) ggL_law_L_takeOff
set_option maxRecDepth 20000 in
theorem ggL_law_X6_takeOff : GoodIn wsL_law wsX6_takeOff := goodIn_r _ [405, 39, 168, 169, 170, 5, 171, 97, 99, 100, 101, 102, 103, 104, 105, 106, 569, 570, 571, 572, 573, 574, 575, 576, 577, 578, 579, 580, 581, 582, 583, 584, 585, 586, 587, 588, 589, 590, 591, 592, 593, 594, 595, 596] (by decide +kernel) (by decide +kernel)
set_option maxRecDepth 20000 in
theorem gL_law_X6_takeOff : GoodIn wsL_law (wsV RL 134 RX6 yX6_takeOff wsX6_takeOff) := goodIn_app (goodIn_of _ (by decide +kernel)) ggL_law_X6_takeOff
set_option maxRecDepth 20000 in
theorem ggL_law_L_orderOf : GoodIn wsL_law wsL_orderOf := goodIn_ca (goodIn_r _ [408, 114, 409, 410, 411, 2, 412, 360, 400, 119, 120, 121, 122, 123, 124, 14, 599, 600, 601, 602, 603, 604, 605, 606, 607, 608, 609, 610, 611, 612, 621, 622, 623, 624, 625, 626, 563, 564, 565, 566, 567, 568] (by decide +kernel) (by decide +kernel)) (goodIn_sub (fun _ h => List.mem_append_left _ (List.mem_append_right _ h)) (by decide +kernel))
set_option maxRecDepth 20000 in
theorem gL_law_L_orderOf : GoodIn wsL_law (va_wsS RL 135 yL_orderOf wsL_orderOf) := goodIn_app (goodIn_of _ (by decide +kernel)) ggL_law_L_orderOf
set_option maxRecDepth 20000 in
theorem ggL_law_X6_orderOf : GoodIn wsL_law wsX6_orderOf := goodIn_r _ [416, 39, 277, 278, 279, 5, 280, 168, 169, 170, 171, 97, 99, 100, 101, 102, 103, 104, 105, 106, 569, 570, 571, 572, 573, 574, 575, 576, 577, 578, 579, 580, 581, 582, 583, 584, 585, 586, 587, 588, 589, 590, 591, 592, 593, 594, 595, 596] (by decide +kernel) (by decide +kernel)
set_option maxRecDepth 20000 in
theorem gL_law_X6_orderOf : GoodIn wsL_law (wsV RL 137 RX6 yX6_orderOf wsX6_orderOf) := goodIn_app (goodIn_of _ (by decide +kernel)) ggL_law_X6_orderOf
set_option maxRecDepth 20000 in
theorem ggL_law_L_left : GoodIn wsL_law wsL_left := goodIn_ca (goodIn_r _ [419, 114, 420, 421, 422, 2, 423, 424, 363, 364, 365, 366, 123, 124, 16, 621, 622, 623, 624, 625, 626, 563, 564, 565, 566, 567, 568] (by decide +kernel) (by decide +kernel)) (goodIn_sub (fun _ h => List.mem_append_left _ (List.mem_append_right _ h)) (by decide +kernel))
set_option maxRecDepth 20000 in
theorem gL_law_L_left : GoodIn wsL_law (va_wsS RL 138 yL_left wsL_left) := goodIn_app (goodIn_of _ (by decide +kernel)) ggL_law_L_left
set_option maxRecDepth 20000 in
theorem ggL_law_X6_left : GoodIn wsL_law wsX6_left := goodIn_r _ [428, 52, 389, 390, 391, 5, 392, 352, 99, 100, 101, 102, 103, 104, 105, 106, 569, 570, 571, 572, 573, 574, 575, 576, 577, 578, 579, 580, 581, 582, 583, 584, 585, 586, 587, 588, 589, 590, 591, 592, 593, 594, 595, 596] (by decide +kernel) (by decide +kernel)
set_option maxRecDepth 20000 in
theorem gL_law_X6_left : GoodIn wsL_law (wsV RL 140 RX6 yX6_left wsX6_left) := goodIn_app (goodIn_of _ (by decide +kernel)) ggL_law_X6_left
set_option maxRecDepth 20000 in
theorem ggL_law_L_account : GoodIn wsL_law wsL_account := goodIn_ca (goodIn_r _ [431, 114, 432, 433, 434, 2, 435, 123, 124, 436, 437, 119, 120, 121, 122, 14, 599, 600, 601, 602, 603, 604, 605, 606, 607, 608, 609, 610, 611, 612, 613, 614, 615, 616, 563, 564, 565, 566, 567, 568] (by decide +kernel) (by decide +kernel)) (goodIn_sub (fun _ h => List.mem_append_left _ (List.mem_append_right _ h)) (by decide +kernel))
set_option maxRecDepth 20000 in
theorem gL_law_L_account : GoodIn wsL_law (va_wsS RL 141 yL_account wsL_account) := goodIn_app (goodIn_of _ (by decide +kernel)) ggL_law_L_account
set_option maxRecDepth 20000 in
theorem ggL_law_X6_account : GoodIn wsL_law wsX6_account := goodIn_r _ [441, 42, 168, 169, 170, 5, 171, 97, 99, 100, 101, 102, 103, 104, 105, 106, 569, 570, 571, 572, 573, 574, 575, 576, 577, 578, 579, 580, 581, 582, 583, 584, 585, 586, 587, 588, 589, 590, 591, 592, 593, 594, 595, 596] (by decide +kernel) (by decide +kernel)
set_option maxRecDepth 20000 in
theorem gL_law_X6_account : GoodIn wsL_law (wsV RL 143 RX6 yX6_account wsX6_account) := goodIn_app (goodIn_of _ (by decide +kernel)) ggL_law_X6_account
set_option maxRecDepth 20000 in
theorem ggL_law_L_buy : GoodIn wsL_law wsL_buy := goodIn_ca (goodIn_ca (goodIn_ca (goodIn_r _ [444, 114, 58, 59, 445, 446, 447, 2, 448, 64, 65, 436, 437, 69, 119, 120, 121, 122, 123, 124, 14, 70, 71, 72, 73, 74, 128, 129, 130, 131, 449, 450, 451, 68, 452, 156, 85, 453, 454, 150, 455, 456, 457, 458, 459, 79, 81, 460, 461, 462, 200, 463, 464, 205, 465, 466, 467, 84, 468, 469, 470, 471, 472, 473, 474, 92, 475, 599, 600, 601, 602, 603, 604, 605, 606, 607, 608, 609, 610, 611, 612, 613, 614, 615, 616, 563, 564, 565, 566, 567, 568, 617, 618, 619, 620] (by decide +kernel) (by decide +kernel)) (goodIn_sub (fun _ h => List.mem_append_left _ (List.mem_append_left _ (List.mem_append_left _ (List.mem_append_right _ h)))) (by decide +kernel))) (goodIn_sub (fun _ h => List.mem_append_left _ (List.mem_append_right _ h)) (by decide +kernel))) (goodIn_sub (fun _ h => List.mem_append_left _ (List.mem_append_left _ (List.mem_append_right _ h))) (by decide +kernel))
set_option maxRecDepth 20000 in
theorem gL_law_L_buy : GoodIn wsL_law (va_wsS RL 144 yL_buy wsL_buy) := goodIn_app (goodIn_of _ (by decide +kernel)) ggL_law_L_buy
set_option maxRecDepth 20000 in
theorem ggL_law_X6_buy : GoodIn wsL_law wsX6_buy := goodIn_r _ [479, 29, 42, 44, 43, 98, 168, 169, 170, 5, 171, 97, 99, 100, 101, 480, 481, 482, 483, 34, 38, 48, 46, 102, 103, 104, 105, 106, 569, 570, 571, 572, 573, 574, 575, 576, 577, 578, 579, 580, 581, 582, 583, 584, 585, 586, 587, 588, 589, 590, 591, 592, 593, 594, 595, 596] (by decide +kernel) (by decide +kernel)
set_option maxRecDepth 20000 in
theorem gL_law_X6_buy : GoodIn wsL_law (wsV RL 146 RX6 yX6_buy wsX6_buy) := goodIn_app (goodIn_of _ (by decide +kernel)) ggL_law_X6_buy
set_option maxRecDepth 20000 in
theorem ggL_law_L_limit : GoodIn wsL_law wsL_limit := goodIn_ca (goodIn_r _ [486, 114, 487, 488, 489, 2, 490, 69, 119, 120, 121, 122, 123, 124, 14, 449, 450, 451, 68, 452, 156, 85, 453, 454, 150, 455, 456, 457, 458, 459, 79, 81, 460, 461, 462, 200, 463, 464, 205, 465, 466, 467, 84, 468, 469, 470, 563, 564, 565, 566, 567, 568, 599, 600, 601, 602, 603, 604, 605, 606, 607, 608, 609, 610, 611, 612, 617, 618, 619, 620, 613, 614, 615, 616] (by decide +kernel) (by decide +kernel)) (goodIn_sub (fun _ h => List.mem_append_left _ (List.mem_append_right _ h)) (by decide +kernel))
set_option maxRecDepth 20000 in
theorem gL_law_L_limit : GoodIn wsL_law (va_wsS RL 147 yL_limit wsL_limit) := goodIn_app (goodIn_of _ (by decide +kernel)) ggL_law_L_limit
set_option maxRecDepth 20000 in
theorem ggL_law_X6_limit : GoodIn wsL_law wsX6_limit := goodIn_r _ [494, 168, 169, 170, 5, 171, 97, 99, 100, 101, 102, 103, 104, 105, 106, 480, 481, 482, 483, 34, 38, 48, 98, 46, 43, 44, 29, 569, 570, 571, 572, 573, 574, 575, 576, 577, 578, 579, 580, 581, 582, 583, 584, 585, 586, 587, 588, 589, 590, 591, 592, 593, 594, 595, 596] (by decide +kernel) (by decide +kernel)
set_option maxRecDepth 20000 in
theorem gL_law_X6_limit : GoodIn wsL_law (wsV RL 149 RX6 yX6_limit wsX6_limit) := goodIn_app (goodIn_of _ (by decide +kernel)) ggL_law_X6_limit
set_option maxRecDepth 20000 in
theorem ggL_law_L_paidOut : GoodIn wsL_law wsL_paidOut := goodIn_ca (goodIn_r _ [497, 114, 498, 499, 500, 2, 501, 436, 502, 119, 120, 121, 122, 123, 124, 14, 599, 600, 601, 602, 603, 604, 605, 606, 607, 608, 609, 610, 611, 612, 613, 614, 615, 616, 563, 564, 565, 566, 567, 568] (by decide +kernel) (by decide +kernel)) (goodIn_sub (fun _ h => List.mem_append_left _ (List.mem_append_right _ h)) (by decide +kernel))
set_option maxRecDepth 20000 in
theorem gL_law_L_paidOut : GoodIn wsL_law (va_wsS RL 150 yL_paidOut wsL_paidOut) := goodIn_app (goodIn_of _ (by decide +kernel)) ggL_law_L_paidOut
set_option maxRecDepth 20000 in
theorem ggL_law_X6_paidOut : GoodIn wsL_law wsX6_paidOut := goodIn_r _ [506, 41, 277, 278, 279, 5, 280, 168, 169, 170, 171, 97, 99, 100, 101, 102, 103, 104, 105, 106, 569, 570, 571, 572, 573, 574, 575, 576, 577, 578, 579, 580, 581, 582, 583, 584, 585, 586, 587, 588, 589, 590, 591, 592, 593, 594, 595, 596] (by decide +kernel) (by decide +kernel)
set_option maxRecDepth 20000 in
theorem gL_law_X6_paidOut : GoodIn wsL_law (wsV RL 152 RX6 yX6_paidOut wsX6_paidOut) := goodIn_app (goodIn_of _ (by decide +kernel)) ggL_law_X6_paidOut
set_option maxRecDepth 20000 in
theorem ggL_law_L_pass : GoodIn wsL_law wsL_pass := goodIn_ca (goodIn_r _ [509, 58, 510, 511, 512, 2, 513, 69, 70, 71, 72, 73, 74, 514, 515, 516, 517, 14, 518, 519, 520, 68, 521, 212, 522, 163, 85, 523, 524, 372, 373, 338, 374, 346, 525, 526, 527, 84, 528, 92, 529, 530, 531, 532, 208, 209, 210, 211, 213, 214, 215, 533, 534, 535, 536, 537, 538, 539, 540, 156, 541, 153, 154, 155, 157, 86, 87, 148, 149, 150, 151, 158, 159, 160, 161, 162, 138, 542, 543, 544, 545, 546, 547, 548, 549, 550, 563, 564, 565, 566, 567, 568, 599, 600, 601, 602, 603, 604, 605, 606, 607, 608, 609, 610, 611, 612, 621, 622, 623, 624, 625, 626, 613, 614, 615, 616, 597, 598] (by decide +kernel) (by decide +kernel)) (goodIn_sub (fun _ h => List.mem_append_left _ (List.mem_append_left _ (List.mem_append_right _ h))) (by decide +kernel))
set_option maxRecDepth 20000 in
theorem gL_law_L_pass : GoodIn wsL_law (va_wsS RL 153 yL_pass wsL_pass) := goodIn_app (goodIn_of _ (by decide +kernel)) ggL_law_L_pass
set_option maxRecDepth 20000 in
theorem ggL_law_X6_pass : GoodIn wsL_law wsX6_pass := goodIn_r _ [554, 97, 39, 52, 98, 99, 100, 5, 101, 102, 103, 104, 105, 106, 555, 556, 557, 558, 35, 53, 42, 559, 560, 561, 562, 29, 40, 41, 176, 177, 178, 179, 32, 31, 180, 181, 182, 183, 36, 184, 185, 186, 187, 38, 48, 45, 569, 570, 571, 572, 573, 574, 575, 576, 577, 578, 579, 580, 581, 582, 583, 584, 585, 586, 587, 588, 589, 590, 591, 592, 593, 594, 595, 596] (by decide +kernel) (by decide +kernel)
set_option maxRecDepth 20000 in
theorem gL_law_X6_pass : GoodIn wsL_law (wsV RL 155 RX6 yX6_pass wsX6_pass) := goodIn_app (goodIn_of _ (by decide +kernel)) ggL_law_X6_pass
end
section
theorem dL_law_0 : decode cL_law 0 = .ok (.new 8, 3) := by decide +kernel
theorem dL_law_3 : decode cL_law 3 = .ok (.dup, 1) := by decide +kernel
theorem dL_law_4 : decode cL_law 4 = .ok (.invokespecial 81, 3) := by decide +kernel
theorem dL_law_7 : decode cL_law 7 = .ok (.astore_n 1, 1) := by decide +kernel
theorem dL_law_8 : decode cL_law 8 = .ok (.new 82, 3) := by decide +kernel
theorem dL_law_11 : decode cL_law 11 = .ok (.dup, 1) := by decide +kernel
theorem dL_law_12 : decode cL_law 12 = .ok (.invokespecial 84, 3) := by decide +kernel
theorem dL_law_15 : decode cL_law 15 = .ok (.astore_n 2, 1) := by decide +kernel
theorem dL_law_16 : decode cL_law 16 = .ok (.iconst 1, 1) := by decide +kernel
theorem dL_law_17 : decode cL_law 17 = .ok (.newarray .long, 2) := by decide +kernel
theorem dL_law_19 : decode cL_law 19 = .ok (.astore_n 3, 1) := by decide +kernel
theorem dL_law_20 : decode cL_law 20 = .ok (.iconst 0, 1) := by decide +kernel
theorem dL_law_21 : decode cL_law 21 = .ok (.istore 4, 2) := by decide +kernel
theorem dL_law_23 : decode cL_law 23 = .ok (.iload 4, 2) := by decide +kernel
theorem dL_law_25 : decode cL_law 25 = .ok (.aload_n 0, 1) := by decide +kernel
theorem dL_law_26 : decode cL_law 26 = .ok (.arraylength, 1) := by decide +kernel
theorem dL_law_27 : decode cL_law 27 = .ok (.iconst 5, 1) := by decide +kernel
theorem dL_law_28 : decode cL_law 28 = .ok (.isub, 1) := by decide +kernel
theorem dL_law_29 : decode cL_law 29 = .ok (.if_icmp .gt 1408, 3) := by decide +kernel
theorem dL_law_32 : decode cL_law 32 = .ok (.aload_n 0, 1) := by decide +kernel
theorem dL_law_33 : decode cL_law 33 = .ok (.iload 4, 2) := by decide +kernel
theorem dL_law_35 : decode cL_law 35 = .ok (.iaload, 1) := by decide +kernel
theorem dL_law_36 : decode cL_law 36 = .ok (.bipush 31, 2) := by decide +kernel
theorem dL_law_38 : decode cL_law 38 = .ok (.iand, 1) := by decide +kernel
theorem dL_law_39 : decode cL_law 39 = .ok (.tableswitch 1392 0 19 #[93, 161, 241, 309, 377, 433, 496, 552, 636, 704, 760, 852, 920, 976, 1032, 1088, 1156, 1224, 1280, 1336], 93) := by decide +kernel
theorem dL_law_132 : decode cL_law 132 = .ok (.aload_n 1, 1) := by decide +kernel
theorem dL_law_133 : decode cL_law 133 = .ok (.aload_n 0, 1) := by decide +kernel
theorem dL_law_134 : decode cL_law 134 = .ok (.iload 4, 2) := by decide +kernel
theorem dL_law_136 : decode cL_law 136 = .ok (.iconst 1, 1) := by decide +kernel
theorem dL_law_137 : decode cL_law 137 = .ok (.iadd, 1) := by decide +kernel
theorem dL_law_138 : decode cL_law 138 = .ok (.iaload, 1) := by decide +kernel
theorem dL_law_139 : decode cL_law 139 = .ok (.aload_n 0, 1) := by decide +kernel
theorem dL_law_140 : decode cL_law 140 = .ok (.iload 4, 2) := by decide +kernel
theorem dL_law_142 : decode cL_law 142 = .ok (.iconst 2, 1) := by decide +kernel
theorem dL_law_143 : decode cL_law 143 = .ok (.iadd, 1) := by decide +kernel
theorem dL_law_144 : decode cL_law 144 = .ok (.iaload, 1) := by decide +kernel
theorem dL_law_145 : decode cL_law 145 = .ok (.aload_n 3, 1) := by decide +kernel
theorem dL_law_146 : decode cL_law 146 = .ok (.invokestatic 85, 3) := by decide +kernel
theorem dL_law_149 : decode cL_law 149 = .ok (.istore 5, 2) := by decide +kernel
theorem dL_law_151 : decode cL_law 151 = .ok (.aload_n 2, 1) := by decide +kernel
theorem dL_law_152 : decode cL_law 152 = .ok (.aload_n 0, 1) := by decide +kernel
theorem dL_law_153 : decode cL_law 153 = .ok (.iload 4, 2) := by decide +kernel
theorem dL_law_155 : decode cL_law 155 = .ok (.iconst 1, 1) := by decide +kernel
theorem dL_law_156 : decode cL_law 156 = .ok (.iadd, 1) := by decide +kernel
theorem dL_law_157 : decode cL_law 157 = .ok (.iaload, 1) := by decide +kernel
theorem dL_law_158 : decode cL_law 158 = .ok (.aload_n 0, 1) := by decide +kernel
theorem dL_law_159 : decode cL_law 159 = .ok (.iload 4, 2) := by decide +kernel
theorem dL_law_161 : decode cL_law 161 = .ok (.iconst 2, 1) := by decide +kernel
theorem dL_law_162 : decode cL_law 162 = .ok (.iadd, 1) := by decide +kernel
theorem dL_law_163 : decode cL_law 163 = .ok (.iaload, 1) := by decide +kernel
theorem dL_law_164 : decode cL_law 164 = .ok (.invokevirtual 90, 3) := by decide +kernel
theorem dL_law_167 : decode cL_law 167 = .ok (.istore 6, 2) := by decide +kernel
theorem dL_law_169 : decode cL_law 169 = .ok (.aload_n 2, 1) := by decide +kernel
theorem dL_law_170 : decode cL_law 170 = .ok (.invokevirtual 91, 3) := by decide +kernel
theorem dL_law_173 : decode cL_law 173 = .ok (.iload 5, 2) := by decide +kernel
theorem dL_law_175 : decode cL_law 175 = .ok (.if_icmp .eq 5, 3) := by decide +kernel
theorem dL_law_178 : decode cL_law 178 = .ok (.iconst 0, 1) := by decide +kernel
theorem dL_law_179 : decode cL_law 179 = .ok (.ireturn, 1) := by decide +kernel
theorem dL_law_180 : decode cL_law 180 = .ok (.iload 5, 2) := by decide +kernel
theorem dL_law_182 : decode cL_law 182 = .ok (.ifCond .ne 15, 3) := by decide +kernel
theorem dL_law_185 : decode cL_law 185 = .ok (.aload_n 3, 1) := by decide +kernel
theorem dL_law_186 : decode cL_law 186 = .ok (.iconst 0, 1) := by decide +kernel
theorem dL_law_187 : decode cL_law 187 = .ok (.laload, 1) := by decide +kernel
theorem dL_law_188 : decode cL_law 188 = .ok (.iload 6, 2) := by decide +kernel
theorem dL_law_190 : decode cL_law 190 = .ok (.i2l, 1) := by decide +kernel
theorem dL_law_191 : decode cL_law 191 = .ok (.lcmp, 1) := by decide +kernel
theorem dL_law_192 : decode cL_law 192 = .ok (.ifCond .eq 5, 3) := by decide +kernel
theorem dL_law_195 : decode cL_law 195 = .ok (.iconst 0, 1) := by decide +kernel
theorem dL_law_196 : decode cL_law 196 = .ok (.ireturn, 1) := by decide +kernel
theorem dL_law_197 : decode cL_law 197 = .ok (.goto 1234, 3) := by decide +kernel
theorem dL_law_200 : decode cL_law 200 = .ok (.aload_n 1, 1) := by decide +kernel
theorem dL_law_201 : decode cL_law 201 = .ok (.aload_n 0, 1) := by decide +kernel
theorem dL_law_202 : decode cL_law 202 = .ok (.iload 4, 2) := by decide +kernel
theorem dL_law_204 : decode cL_law 204 = .ok (.iconst 1, 1) := by decide +kernel
theorem dL_law_205 : decode cL_law 205 = .ok (.iadd, 1) := by decide +kernel
theorem dL_law_206 : decode cL_law 206 = .ok (.iaload, 1) := by decide +kernel
theorem dL_law_207 : decode cL_law 207 = .ok (.aload_n 0, 1) := by decide +kernel
theorem dL_law_208 : decode cL_law 208 = .ok (.iload 4, 2) := by decide +kernel
theorem dL_law_210 : decode cL_law 210 = .ok (.iconst 2, 1) := by decide +kernel
theorem dL_law_211 : decode cL_law 211 = .ok (.iadd, 1) := by decide +kernel
theorem dL_law_212 : decode cL_law 212 = .ok (.iaload, 1) := by decide +kernel
theorem dL_law_213 : decode cL_law 213 = .ok (.aload_n 0, 1) := by decide +kernel
theorem dL_law_214 : decode cL_law 214 = .ok (.iload 4, 2) := by decide +kernel
theorem dL_law_216 : decode cL_law 216 = .ok (.iconst 3, 1) := by decide +kernel
theorem dL_law_217 : decode cL_law 217 = .ok (.iadd, 1) := by decide +kernel
theorem dL_law_218 : decode cL_law 218 = .ok (.iaload, 1) := by decide +kernel
theorem dL_law_219 : decode cL_law 219 = .ok (.aload_n 3, 1) := by decide +kernel
theorem dL_law_220 : decode cL_law 220 = .ok (.invokestatic 95, 3) := by decide +kernel
theorem dL_law_223 : decode cL_law 223 = .ok (.istore 5, 2) := by decide +kernel
theorem dL_law_225 : decode cL_law 225 = .ok (.aload_n 2, 1) := by decide +kernel
theorem dL_law_226 : decode cL_law 226 = .ok (.aload_n 0, 1) := by decide +kernel
theorem dL_law_227 : decode cL_law 227 = .ok (.iload 4, 2) := by decide +kernel
theorem dL_law_229 : decode cL_law 229 = .ok (.iconst 1, 1) := by decide +kernel
theorem dL_law_230 : decode cL_law 230 = .ok (.iadd, 1) := by decide +kernel
theorem dL_law_231 : decode cL_law 231 = .ok (.iaload, 1) := by decide +kernel
theorem dL_law_232 : decode cL_law 232 = .ok (.aload_n 0, 1) := by decide +kernel
theorem dL_law_233 : decode cL_law 233 = .ok (.iload 4, 2) := by decide +kernel
theorem dL_law_235 : decode cL_law 235 = .ok (.iconst 2, 1) := by decide +kernel
theorem dL_law_236 : decode cL_law 236 = .ok (.iadd, 1) := by decide +kernel
theorem dL_law_237 : decode cL_law 237 = .ok (.iaload, 1) := by decide +kernel
theorem dL_law_238 : decode cL_law 238 = .ok (.aload_n 0, 1) := by decide +kernel
theorem dL_law_239 : decode cL_law 239 = .ok (.iload 4, 2) := by decide +kernel
theorem dL_law_241 : decode cL_law 241 = .ok (.iconst 3, 1) := by decide +kernel
theorem dL_law_242 : decode cL_law 242 = .ok (.iadd, 1) := by decide +kernel
theorem dL_law_243 : decode cL_law 243 = .ok (.iaload, 1) := by decide +kernel
theorem dL_law_244 : decode cL_law 244 = .ok (.invokevirtual 98, 3) := by decide +kernel
theorem dL_law_247 : decode cL_law 247 = .ok (.istore 6, 2) := by decide +kernel
theorem dL_law_249 : decode cL_law 249 = .ok (.aload_n 2, 1) := by decide +kernel
theorem dL_law_250 : decode cL_law 250 = .ok (.invokevirtual 91, 3) := by decide +kernel
theorem dL_law_253 : decode cL_law 253 = .ok (.iload 5, 2) := by decide +kernel
theorem dL_law_255 : decode cL_law 255 = .ok (.if_icmp .eq 5, 3) := by decide +kernel
theorem dL_law_258 : decode cL_law 258 = .ok (.iconst 0, 1) := by decide +kernel
theorem dL_law_259 : decode cL_law 259 = .ok (.ireturn, 1) := by decide +kernel
theorem dL_law_260 : decode cL_law 260 = .ok (.iload 5, 2) := by decide +kernel
theorem dL_law_262 : decode cL_law 262 = .ok (.ifCond .ne 15, 3) := by decide +kernel
theorem dL_law_265 : decode cL_law 265 = .ok (.aload_n 3, 1) := by decide +kernel
theorem dL_law_266 : decode cL_law 266 = .ok (.iconst 0, 1) := by decide +kernel
theorem dL_law_267 : decode cL_law 267 = .ok (.laload, 1) := by decide +kernel
theorem dL_law_268 : decode cL_law 268 = .ok (.iload 6, 2) := by decide +kernel
theorem dL_law_270 : decode cL_law 270 = .ok (.i2l, 1) := by decide +kernel
theorem dL_law_271 : decode cL_law 271 = .ok (.lcmp, 1) := by decide +kernel
theorem dL_law_272 : decode cL_law 272 = .ok (.ifCond .eq 5, 3) := by decide +kernel
theorem dL_law_275 : decode cL_law 275 = .ok (.iconst 0, 1) := by decide +kernel
theorem dL_law_276 : decode cL_law 276 = .ok (.ireturn, 1) := by decide +kernel
theorem dL_law_277 : decode cL_law 277 = .ok (.goto 1154, 3) := by decide +kernel
theorem dL_law_280 : decode cL_law 280 = .ok (.aload_n 1, 1) := by decide +kernel
theorem dL_law_281 : decode cL_law 281 = .ok (.aload_n 0, 1) := by decide +kernel
theorem dL_law_282 : decode cL_law 282 = .ok (.iload 4, 2) := by decide +kernel
theorem dL_law_284 : decode cL_law 284 = .ok (.iconst 1, 1) := by decide +kernel
theorem dL_law_285 : decode cL_law 285 = .ok (.iadd, 1) := by decide +kernel
theorem dL_law_286 : decode cL_law 286 = .ok (.iaload, 1) := by decide +kernel
theorem dL_law_287 : decode cL_law 287 = .ok (.aload_n 0, 1) := by decide +kernel
theorem dL_law_288 : decode cL_law 288 = .ok (.iload 4, 2) := by decide +kernel
theorem dL_law_290 : decode cL_law 290 = .ok (.iconst 2, 1) := by decide +kernel
theorem dL_law_291 : decode cL_law 291 = .ok (.iadd, 1) := by decide +kernel
theorem dL_law_292 : decode cL_law 292 = .ok (.iaload, 1) := by decide +kernel
theorem dL_law_293 : decode cL_law 293 = .ok (.aload_n 3, 1) := by decide +kernel
theorem dL_law_294 : decode cL_law 294 = .ok (.invokestatic 99, 3) := by decide +kernel
theorem dL_law_297 : decode cL_law 297 = .ok (.istore 5, 2) := by decide +kernel
theorem dL_law_299 : decode cL_law 299 = .ok (.aload_n 2, 1) := by decide +kernel
theorem dL_law_300 : decode cL_law 300 = .ok (.aload_n 0, 1) := by decide +kernel
theorem dL_law_301 : decode cL_law 301 = .ok (.iload 4, 2) := by decide +kernel
theorem dL_law_303 : decode cL_law 303 = .ok (.iconst 1, 1) := by decide +kernel
theorem dL_law_304 : decode cL_law 304 = .ok (.iadd, 1) := by decide +kernel
theorem dL_law_305 : decode cL_law 305 = .ok (.iaload, 1) := by decide +kernel
theorem dL_law_306 : decode cL_law 306 = .ok (.aload_n 0, 1) := by decide +kernel
theorem dL_law_307 : decode cL_law 307 = .ok (.iload 4, 2) := by decide +kernel
theorem dL_law_309 : decode cL_law 309 = .ok (.iconst 2, 1) := by decide +kernel
theorem dL_law_310 : decode cL_law 310 = .ok (.iadd, 1) := by decide +kernel
theorem dL_law_311 : decode cL_law 311 = .ok (.iaload, 1) := by decide +kernel
theorem dL_law_312 : decode cL_law 312 = .ok (.invokevirtual 101, 3) := by decide +kernel
theorem dL_law_315 : decode cL_law 315 = .ok (.istore 6, 2) := by decide +kernel
theorem dL_law_317 : decode cL_law 317 = .ok (.aload_n 2, 1) := by decide +kernel
theorem dL_law_318 : decode cL_law 318 = .ok (.invokevirtual 91, 3) := by decide +kernel
theorem dL_law_321 : decode cL_law 321 = .ok (.iload 5, 2) := by decide +kernel
theorem dL_law_323 : decode cL_law 323 = .ok (.if_icmp .eq 5, 3) := by decide +kernel
theorem dL_law_326 : decode cL_law 326 = .ok (.iconst 0, 1) := by decide +kernel
theorem dL_law_327 : decode cL_law 327 = .ok (.ireturn, 1) := by decide +kernel
theorem dL_law_328 : decode cL_law 328 = .ok (.iload 5, 2) := by decide +kernel
theorem dL_law_330 : decode cL_law 330 = .ok (.ifCond .ne 15, 3) := by decide +kernel
theorem dL_law_333 : decode cL_law 333 = .ok (.aload_n 3, 1) := by decide +kernel
theorem dL_law_334 : decode cL_law 334 = .ok (.iconst 0, 1) := by decide +kernel
theorem dL_law_335 : decode cL_law 335 = .ok (.laload, 1) := by decide +kernel
theorem dL_law_336 : decode cL_law 336 = .ok (.iload 6, 2) := by decide +kernel
theorem dL_law_338 : decode cL_law 338 = .ok (.i2l, 1) := by decide +kernel
theorem dL_law_339 : decode cL_law 339 = .ok (.lcmp, 1) := by decide +kernel
theorem dL_law_340 : decode cL_law 340 = .ok (.ifCond .eq 5, 3) := by decide +kernel
theorem dL_law_343 : decode cL_law 343 = .ok (.iconst 0, 1) := by decide +kernel
theorem dL_law_344 : decode cL_law 344 = .ok (.ireturn, 1) := by decide +kernel
theorem dL_law_345 : decode cL_law 345 = .ok (.goto 1086, 3) := by decide +kernel
theorem dL_law_348 : decode cL_law 348 = .ok (.aload_n 1, 1) := by decide +kernel
theorem dL_law_349 : decode cL_law 349 = .ok (.aload_n 0, 1) := by decide +kernel
theorem dL_law_350 : decode cL_law 350 = .ok (.iload 4, 2) := by decide +kernel
theorem dL_law_352 : decode cL_law 352 = .ok (.iconst 1, 1) := by decide +kernel
theorem dL_law_353 : decode cL_law 353 = .ok (.iadd, 1) := by decide +kernel
theorem dL_law_354 : decode cL_law 354 = .ok (.iaload, 1) := by decide +kernel
theorem dL_law_355 : decode cL_law 355 = .ok (.aload_n 0, 1) := by decide +kernel
theorem dL_law_356 : decode cL_law 356 = .ok (.iload 4, 2) := by decide +kernel
theorem dL_law_358 : decode cL_law 358 = .ok (.iconst 2, 1) := by decide +kernel
theorem dL_law_359 : decode cL_law 359 = .ok (.iadd, 1) := by decide +kernel
theorem dL_law_360 : decode cL_law 360 = .ok (.iaload, 1) := by decide +kernel
theorem dL_law_361 : decode cL_law 361 = .ok (.aload_n 3, 1) := by decide +kernel
theorem dL_law_362 : decode cL_law 362 = .ok (.invokestatic 102, 3) := by decide +kernel
theorem dL_law_365 : decode cL_law 365 = .ok (.istore 5, 2) := by decide +kernel
theorem dL_law_367 : decode cL_law 367 = .ok (.aload_n 2, 1) := by decide +kernel
theorem dL_law_368 : decode cL_law 368 = .ok (.aload_n 0, 1) := by decide +kernel
theorem dL_law_369 : decode cL_law 369 = .ok (.iload 4, 2) := by decide +kernel
theorem dL_law_371 : decode cL_law 371 = .ok (.iconst 1, 1) := by decide +kernel
theorem dL_law_372 : decode cL_law 372 = .ok (.iadd, 1) := by decide +kernel
theorem dL_law_373 : decode cL_law 373 = .ok (.iaload, 1) := by decide +kernel
theorem dL_law_374 : decode cL_law 374 = .ok (.aload_n 0, 1) := by decide +kernel
theorem dL_law_375 : decode cL_law 375 = .ok (.iload 4, 2) := by decide +kernel
theorem dL_law_377 : decode cL_law 377 = .ok (.iconst 2, 1) := by decide +kernel
theorem dL_law_378 : decode cL_law 378 = .ok (.iadd, 1) := by decide +kernel
theorem dL_law_379 : decode cL_law 379 = .ok (.iaload, 1) := by decide +kernel
theorem dL_law_380 : decode cL_law 380 = .ok (.invokevirtual 104, 3) := by decide +kernel
theorem dL_law_383 : decode cL_law 383 = .ok (.istore 6, 2) := by decide +kernel
theorem dL_law_385 : decode cL_law 385 = .ok (.aload_n 2, 1) := by decide +kernel
theorem dL_law_386 : decode cL_law 386 = .ok (.invokevirtual 91, 3) := by decide +kernel
theorem dL_law_389 : decode cL_law 389 = .ok (.iload 5, 2) := by decide +kernel
theorem dL_law_391 : decode cL_law 391 = .ok (.if_icmp .eq 5, 3) := by decide +kernel
theorem dL_law_394 : decode cL_law 394 = .ok (.iconst 0, 1) := by decide +kernel
theorem dL_law_395 : decode cL_law 395 = .ok (.ireturn, 1) := by decide +kernel
theorem dL_law_396 : decode cL_law 396 = .ok (.iload 5, 2) := by decide +kernel
theorem dL_law_398 : decode cL_law 398 = .ok (.ifCond .ne 15, 3) := by decide +kernel
theorem dL_law_401 : decode cL_law 401 = .ok (.aload_n 3, 1) := by decide +kernel
theorem dL_law_402 : decode cL_law 402 = .ok (.iconst 0, 1) := by decide +kernel
theorem dL_law_403 : decode cL_law 403 = .ok (.laload, 1) := by decide +kernel
theorem dL_law_404 : decode cL_law 404 = .ok (.iload 6, 2) := by decide +kernel
theorem dL_law_406 : decode cL_law 406 = .ok (.i2l, 1) := by decide +kernel
theorem dL_law_407 : decode cL_law 407 = .ok (.lcmp, 1) := by decide +kernel
theorem dL_law_408 : decode cL_law 408 = .ok (.ifCond .eq 5, 3) := by decide +kernel
theorem dL_law_411 : decode cL_law 411 = .ok (.iconst 0, 1) := by decide +kernel
theorem dL_law_412 : decode cL_law 412 = .ok (.ireturn, 1) := by decide +kernel
theorem dL_law_413 : decode cL_law 413 = .ok (.goto 1018, 3) := by decide +kernel
theorem dL_law_416 : decode cL_law 416 = .ok (.aload_n 1, 1) := by decide +kernel
theorem dL_law_417 : decode cL_law 417 = .ok (.aload_n 0, 1) := by decide +kernel
theorem dL_law_418 : decode cL_law 418 = .ok (.iload 4, 2) := by decide +kernel
theorem dL_law_420 : decode cL_law 420 = .ok (.iconst 1, 1) := by decide +kernel
theorem dL_law_421 : decode cL_law 421 = .ok (.iadd, 1) := by decide +kernel
theorem dL_law_422 : decode cL_law 422 = .ok (.iaload, 1) := by decide +kernel
theorem dL_law_423 : decode cL_law 423 = .ok (.aload_n 3, 1) := by decide +kernel
theorem dL_law_424 : decode cL_law 424 = .ok (.invokestatic 105, 3) := by decide +kernel
theorem dL_law_427 : decode cL_law 427 = .ok (.istore 5, 2) := by decide +kernel
theorem dL_law_429 : decode cL_law 429 = .ok (.aload_n 2, 1) := by decide +kernel
theorem dL_law_430 : decode cL_law 430 = .ok (.aload_n 0, 1) := by decide +kernel
theorem dL_law_431 : decode cL_law 431 = .ok (.iload 4, 2) := by decide +kernel
theorem dL_law_433 : decode cL_law 433 = .ok (.iconst 1, 1) := by decide +kernel
theorem dL_law_434 : decode cL_law 434 = .ok (.iadd, 1) := by decide +kernel
theorem dL_law_435 : decode cL_law 435 = .ok (.iaload, 1) := by decide +kernel
theorem dL_law_436 : decode cL_law 436 = .ok (.invokevirtual 108, 3) := by decide +kernel
theorem dL_law_439 : decode cL_law 439 = .ok (.istore 6, 2) := by decide +kernel
theorem dL_law_441 : decode cL_law 441 = .ok (.aload_n 2, 1) := by decide +kernel
theorem dL_law_442 : decode cL_law 442 = .ok (.invokevirtual 91, 3) := by decide +kernel
theorem dL_law_445 : decode cL_law 445 = .ok (.iload 5, 2) := by decide +kernel
theorem dL_law_447 : decode cL_law 447 = .ok (.if_icmp .eq 5, 3) := by decide +kernel
theorem dL_law_450 : decode cL_law 450 = .ok (.iconst 0, 1) := by decide +kernel
theorem dL_law_451 : decode cL_law 451 = .ok (.ireturn, 1) := by decide +kernel
theorem dL_law_452 : decode cL_law 452 = .ok (.iload 5, 2) := by decide +kernel
theorem dL_law_454 : decode cL_law 454 = .ok (.ifCond .ne 15, 3) := by decide +kernel
theorem dL_law_457 : decode cL_law 457 = .ok (.aload_n 3, 1) := by decide +kernel
theorem dL_law_458 : decode cL_law 458 = .ok (.iconst 0, 1) := by decide +kernel
theorem dL_law_459 : decode cL_law 459 = .ok (.laload, 1) := by decide +kernel
theorem dL_law_460 : decode cL_law 460 = .ok (.iload 6, 2) := by decide +kernel
theorem dL_law_462 : decode cL_law 462 = .ok (.i2l, 1) := by decide +kernel
theorem dL_law_463 : decode cL_law 463 = .ok (.lcmp, 1) := by decide +kernel
theorem dL_law_464 : decode cL_law 464 = .ok (.ifCond .eq 5, 3) := by decide +kernel
theorem dL_law_467 : decode cL_law 467 = .ok (.iconst 0, 1) := by decide +kernel
theorem dL_law_468 : decode cL_law 468 = .ok (.ireturn, 1) := by decide +kernel
theorem dL_law_469 : decode cL_law 469 = .ok (.goto 962, 3) := by decide +kernel
theorem dL_law_472 : decode cL_law 472 = .ok (.aload_n 1, 1) := by decide +kernel
theorem dL_law_473 : decode cL_law 473 = .ok (.aload_n 0, 1) := by decide +kernel
theorem dL_law_474 : decode cL_law 474 = .ok (.iload 4, 2) := by decide +kernel
theorem dL_law_476 : decode cL_law 476 = .ok (.iconst 1, 1) := by decide +kernel
theorem dL_law_477 : decode cL_law 477 = .ok (.iadd, 1) := by decide +kernel
theorem dL_law_478 : decode cL_law 478 = .ok (.iaload, 1) := by decide +kernel
theorem dL_law_479 : decode cL_law 479 = .ok (.aload_n 3, 1) := by decide +kernel
theorem dL_law_480 : decode cL_law 480 = .ok (.invokestatic 109, 3) := by decide +kernel
theorem dL_law_483 : decode cL_law 483 = .ok (.istore 5, 2) := by decide +kernel
theorem dL_law_485 : decode cL_law 485 = .ok (.aload_n 2, 1) := by decide +kernel
theorem dL_law_486 : decode cL_law 486 = .ok (.aload_n 0, 1) := by decide +kernel
theorem dL_law_487 : decode cL_law 487 = .ok (.iload 4, 2) := by decide +kernel
theorem dL_law_489 : decode cL_law 489 = .ok (.iconst 1, 1) := by decide +kernel
theorem dL_law_490 : decode cL_law 490 = .ok (.iadd, 1) := by decide +kernel
theorem dL_law_491 : decode cL_law 491 = .ok (.iaload, 1) := by decide +kernel
theorem dL_law_492 : decode cL_law 492 = .ok (.invokevirtual 111, 3) := by decide +kernel
theorem dL_law_495 : decode cL_law 495 = .ok (.istore 6, 2) := by decide +kernel
theorem dL_law_497 : decode cL_law 497 = .ok (.aload_n 2, 1) := by decide +kernel
theorem dL_law_498 : decode cL_law 498 = .ok (.invokevirtual 91, 3) := by decide +kernel
theorem dL_law_501 : decode cL_law 501 = .ok (.iload 5, 2) := by decide +kernel
theorem dL_law_503 : decode cL_law 503 = .ok (.if_icmp .eq 5, 3) := by decide +kernel
theorem dL_law_506 : decode cL_law 506 = .ok (.iconst 0, 1) := by decide +kernel
theorem dL_law_507 : decode cL_law 507 = .ok (.ireturn, 1) := by decide +kernel
theorem dL_law_508 : decode cL_law 508 = .ok (.iload 5, 2) := by decide +kernel
theorem dL_law_510 : decode cL_law 510 = .ok (.ifCond .ne 22, 3) := by decide +kernel
theorem dL_law_513 : decode cL_law 513 = .ok (.aload_n 3, 1) := by decide +kernel
theorem dL_law_514 : decode cL_law 514 = .ok (.iconst 0, 1) := by decide +kernel
theorem dL_law_515 : decode cL_law 515 = .ok (.laload, 1) := by decide +kernel
theorem dL_law_516 : decode cL_law 516 = .ok (.iload 6, 2) := by decide +kernel
theorem dL_law_518 : decode cL_law 518 = .ok (.ifCond .eq 7, 3) := by decide +kernel
theorem dL_law_521 : decode cL_law 521 = .ok (.lconst 1, 1) := by decide +kernel
theorem dL_law_522 : decode cL_law 522 = .ok (.goto 4, 3) := by decide +kernel
theorem dL_law_525 : decode cL_law 525 = .ok (.lconst 0, 1) := by decide +kernel
theorem dL_law_526 : decode cL_law 526 = .ok (.lcmp, 1) := by decide +kernel
theorem dL_law_527 : decode cL_law 527 = .ok (.ifCond .eq 5, 3) := by decide +kernel
theorem dL_law_530 : decode cL_law 530 = .ok (.iconst 0, 1) := by decide +kernel
theorem dL_law_531 : decode cL_law 531 = .ok (.ireturn, 1) := by decide +kernel
theorem dL_law_532 : decode cL_law 532 = .ok (.goto 899, 3) := by decide +kernel
theorem dL_law_535 : decode cL_law 535 = .ok (.aload_n 1, 1) := by decide +kernel
theorem dL_law_536 : decode cL_law 536 = .ok (.aload_n 0, 1) := by decide +kernel
theorem dL_law_537 : decode cL_law 537 = .ok (.iload 4, 2) := by decide +kernel
theorem dL_law_539 : decode cL_law 539 = .ok (.iconst 1, 1) := by decide +kernel
theorem dL_law_540 : decode cL_law 540 = .ok (.iadd, 1) := by decide +kernel
theorem dL_law_541 : decode cL_law 541 = .ok (.iaload, 1) := by decide +kernel
theorem dL_law_542 : decode cL_law 542 = .ok (.aload_n 3, 1) := by decide +kernel
theorem dL_law_543 : decode cL_law 543 = .ok (.invokestatic 112, 3) := by decide +kernel
theorem dL_law_546 : decode cL_law 546 = .ok (.istore 5, 2) := by decide +kernel
theorem dL_law_548 : decode cL_law 548 = .ok (.aload_n 2, 1) := by decide +kernel
theorem dL_law_549 : decode cL_law 549 = .ok (.aload_n 0, 1) := by decide +kernel
theorem dL_law_550 : decode cL_law 550 = .ok (.iload 4, 2) := by decide +kernel
theorem dL_law_552 : decode cL_law 552 = .ok (.iconst 1, 1) := by decide +kernel
theorem dL_law_553 : decode cL_law 553 = .ok (.iadd, 1) := by decide +kernel
theorem dL_law_554 : decode cL_law 554 = .ok (.iaload, 1) := by decide +kernel
theorem dL_law_555 : decode cL_law 555 = .ok (.invokevirtual 114, 3) := by decide +kernel
theorem dL_law_558 : decode cL_law 558 = .ok (.istore 6, 2) := by decide +kernel
theorem dL_law_560 : decode cL_law 560 = .ok (.aload_n 2, 1) := by decide +kernel
theorem dL_law_561 : decode cL_law 561 = .ok (.invokevirtual 91, 3) := by decide +kernel
theorem dL_law_564 : decode cL_law 564 = .ok (.iload 5, 2) := by decide +kernel
theorem dL_law_566 : decode cL_law 566 = .ok (.if_icmp .eq 5, 3) := by decide +kernel
theorem dL_law_569 : decode cL_law 569 = .ok (.iconst 0, 1) := by decide +kernel
theorem dL_law_570 : decode cL_law 570 = .ok (.ireturn, 1) := by decide +kernel
theorem dL_law_571 : decode cL_law 571 = .ok (.iload 5, 2) := by decide +kernel
theorem dL_law_573 : decode cL_law 573 = .ok (.ifCond .ne 15, 3) := by decide +kernel
theorem dL_law_576 : decode cL_law 576 = .ok (.aload_n 3, 1) := by decide +kernel
theorem dL_law_577 : decode cL_law 577 = .ok (.iconst 0, 1) := by decide +kernel
theorem dL_law_578 : decode cL_law 578 = .ok (.laload, 1) := by decide +kernel
theorem dL_law_579 : decode cL_law 579 = .ok (.iload 6, 2) := by decide +kernel
theorem dL_law_581 : decode cL_law 581 = .ok (.i2l, 1) := by decide +kernel
theorem dL_law_582 : decode cL_law 582 = .ok (.lcmp, 1) := by decide +kernel
theorem dL_law_583 : decode cL_law 583 = .ok (.ifCond .eq 5, 3) := by decide +kernel
theorem dL_law_586 : decode cL_law 586 = .ok (.iconst 0, 1) := by decide +kernel
theorem dL_law_587 : decode cL_law 587 = .ok (.ireturn, 1) := by decide +kernel
theorem dL_law_588 : decode cL_law 588 = .ok (.goto 843, 3) := by decide +kernel
theorem dL_law_591 : decode cL_law 591 = .ok (.aload_n 1, 1) := by decide +kernel
theorem dL_law_592 : decode cL_law 592 = .ok (.aload_n 0, 1) := by decide +kernel
theorem dL_law_593 : decode cL_law 593 = .ok (.iload 4, 2) := by decide +kernel
theorem dL_law_595 : decode cL_law 595 = .ok (.iconst 1, 1) := by decide +kernel
theorem dL_law_596 : decode cL_law 596 = .ok (.iadd, 1) := by decide +kernel
theorem dL_law_597 : decode cL_law 597 = .ok (.iaload, 1) := by decide +kernel
theorem dL_law_598 : decode cL_law 598 = .ok (.aload_n 0, 1) := by decide +kernel
theorem dL_law_599 : decode cL_law 599 = .ok (.iload 4, 2) := by decide +kernel
theorem dL_law_601 : decode cL_law 601 = .ok (.iconst 2, 1) := by decide +kernel
theorem dL_law_602 : decode cL_law 602 = .ok (.iadd, 1) := by decide +kernel
theorem dL_law_603 : decode cL_law 603 = .ok (.iaload, 1) := by decide +kernel
theorem dL_law_604 : decode cL_law 604 = .ok (.ifCond .eq 7, 3) := by decide +kernel
theorem dL_law_607 : decode cL_law 607 = .ok (.iconst 1, 1) := by decide +kernel
theorem dL_law_608 : decode cL_law 608 = .ok (.goto 4, 3) := by decide +kernel
theorem dL_law_611 : decode cL_law 611 = .ok (.iconst 0, 1) := by decide +kernel
theorem dL_law_612 : decode cL_law 612 = .ok (.aload_n 3, 1) := by decide +kernel
theorem dL_law_613 : decode cL_law 613 = .ok (.invokestatic 115, 3) := by decide +kernel
theorem dL_law_616 : decode cL_law 616 = .ok (.istore 5, 2) := by decide +kernel
theorem dL_law_618 : decode cL_law 618 = .ok (.aload_n 2, 1) := by decide +kernel
theorem dL_law_619 : decode cL_law 619 = .ok (.aload_n 0, 1) := by decide +kernel
theorem dL_law_620 : decode cL_law 620 = .ok (.iload 4, 2) := by decide +kernel
theorem dL_law_622 : decode cL_law 622 = .ok (.iconst 1, 1) := by decide +kernel
theorem dL_law_623 : decode cL_law 623 = .ok (.iadd, 1) := by decide +kernel
theorem dL_law_624 : decode cL_law 624 = .ok (.iaload, 1) := by decide +kernel
theorem dL_law_625 : decode cL_law 625 = .ok (.aload_n 0, 1) := by decide +kernel
theorem dL_law_626 : decode cL_law 626 = .ok (.iload 4, 2) := by decide +kernel
theorem dL_law_628 : decode cL_law 628 = .ok (.iconst 2, 1) := by decide +kernel
theorem dL_law_629 : decode cL_law 629 = .ok (.iadd, 1) := by decide +kernel
theorem dL_law_630 : decode cL_law 630 = .ok (.iaload, 1) := by decide +kernel
theorem dL_law_631 : decode cL_law 631 = .ok (.ifCond .eq 7, 3) := by decide +kernel
theorem dL_law_634 : decode cL_law 634 = .ok (.iconst 1, 1) := by decide +kernel
theorem dL_law_635 : decode cL_law 635 = .ok (.goto 4, 3) := by decide +kernel
theorem dL_law_638 : decode cL_law 638 = .ok (.iconst 0, 1) := by decide +kernel
theorem dL_law_639 : decode cL_law 639 = .ok (.invokevirtual 118, 3) := by decide +kernel
theorem dL_law_642 : decode cL_law 642 = .ok (.istore 6, 2) := by decide +kernel
theorem dL_law_644 : decode cL_law 644 = .ok (.aload_n 2, 1) := by decide +kernel
theorem dL_law_645 : decode cL_law 645 = .ok (.invokevirtual 91, 3) := by decide +kernel
theorem dL_law_648 : decode cL_law 648 = .ok (.iload 5, 2) := by decide +kernel
theorem dL_law_650 : decode cL_law 650 = .ok (.if_icmp .eq 5, 3) := by decide +kernel
theorem dL_law_653 : decode cL_law 653 = .ok (.iconst 0, 1) := by decide +kernel
theorem dL_law_654 : decode cL_law 654 = .ok (.ireturn, 1) := by decide +kernel
theorem dL_law_655 : decode cL_law 655 = .ok (.iload 5, 2) := by decide +kernel
theorem dL_law_657 : decode cL_law 657 = .ok (.ifCond .ne 15, 3) := by decide +kernel
theorem dL_law_660 : decode cL_law 660 = .ok (.aload_n 3, 1) := by decide +kernel
theorem dL_law_661 : decode cL_law 661 = .ok (.iconst 0, 1) := by decide +kernel
theorem dL_law_662 : decode cL_law 662 = .ok (.laload, 1) := by decide +kernel
theorem dL_law_663 : decode cL_law 663 = .ok (.iload 6, 2) := by decide +kernel
theorem dL_law_665 : decode cL_law 665 = .ok (.i2l, 1) := by decide +kernel
theorem dL_law_666 : decode cL_law 666 = .ok (.lcmp, 1) := by decide +kernel
theorem dL_law_667 : decode cL_law 667 = .ok (.ifCond .eq 5, 3) := by decide +kernel
theorem dL_law_670 : decode cL_law 670 = .ok (.iconst 0, 1) := by decide +kernel
theorem dL_law_671 : decode cL_law 671 = .ok (.ireturn, 1) := by decide +kernel
theorem dL_law_672 : decode cL_law 672 = .ok (.goto 759, 3) := by decide +kernel
theorem dL_law_675 : decode cL_law 675 = .ok (.aload_n 1, 1) := by decide +kernel
theorem dL_law_676 : decode cL_law 676 = .ok (.aload_n 0, 1) := by decide +kernel
theorem dL_law_677 : decode cL_law 677 = .ok (.iload 4, 2) := by decide +kernel
theorem dL_law_679 : decode cL_law 679 = .ok (.iconst 1, 1) := by decide +kernel
theorem dL_law_680 : decode cL_law 680 = .ok (.iadd, 1) := by decide +kernel
theorem dL_law_681 : decode cL_law 681 = .ok (.iaload, 1) := by decide +kernel
theorem dL_law_682 : decode cL_law 682 = .ok (.aload_n 0, 1) := by decide +kernel
theorem dL_law_683 : decode cL_law 683 = .ok (.iload 4, 2) := by decide +kernel
theorem dL_law_685 : decode cL_law 685 = .ok (.iconst 2, 1) := by decide +kernel
theorem dL_law_686 : decode cL_law 686 = .ok (.iadd, 1) := by decide +kernel
theorem dL_law_687 : decode cL_law 687 = .ok (.iaload, 1) := by decide +kernel
theorem dL_law_688 : decode cL_law 688 = .ok (.aload_n 3, 1) := by decide +kernel
theorem dL_law_689 : decode cL_law 689 = .ok (.invokestatic 119, 3) := by decide +kernel
theorem dL_law_692 : decode cL_law 692 = .ok (.istore 5, 2) := by decide +kernel
theorem dL_law_694 : decode cL_law 694 = .ok (.aload_n 2, 1) := by decide +kernel
theorem dL_law_695 : decode cL_law 695 = .ok (.aload_n 0, 1) := by decide +kernel
theorem dL_law_696 : decode cL_law 696 = .ok (.iload 4, 2) := by decide +kernel
theorem dL_law_698 : decode cL_law 698 = .ok (.iconst 1, 1) := by decide +kernel
theorem dL_law_699 : decode cL_law 699 = .ok (.iadd, 1) := by decide +kernel
theorem dL_law_700 : decode cL_law 700 = .ok (.iaload, 1) := by decide +kernel
theorem dL_law_701 : decode cL_law 701 = .ok (.aload_n 0, 1) := by decide +kernel
theorem dL_law_702 : decode cL_law 702 = .ok (.iload 4, 2) := by decide +kernel
theorem dL_law_704 : decode cL_law 704 = .ok (.iconst 2, 1) := by decide +kernel
theorem dL_law_705 : decode cL_law 705 = .ok (.iadd, 1) := by decide +kernel
theorem dL_law_706 : decode cL_law 706 = .ok (.iaload, 1) := by decide +kernel
theorem dL_law_707 : decode cL_law 707 = .ok (.invokevirtual 121, 3) := by decide +kernel
theorem dL_law_710 : decode cL_law 710 = .ok (.istore 6, 2) := by decide +kernel
theorem dL_law_712 : decode cL_law 712 = .ok (.aload_n 2, 1) := by decide +kernel
theorem dL_law_713 : decode cL_law 713 = .ok (.invokevirtual 91, 3) := by decide +kernel
theorem dL_law_716 : decode cL_law 716 = .ok (.iload 5, 2) := by decide +kernel
theorem dL_law_718 : decode cL_law 718 = .ok (.if_icmp .eq 5, 3) := by decide +kernel
theorem dL_law_721 : decode cL_law 721 = .ok (.iconst 0, 1) := by decide +kernel
theorem dL_law_722 : decode cL_law 722 = .ok (.ireturn, 1) := by decide +kernel
theorem dL_law_723 : decode cL_law 723 = .ok (.iload 5, 2) := by decide +kernel
theorem dL_law_725 : decode cL_law 725 = .ok (.ifCond .ne 15, 3) := by decide +kernel
theorem dL_law_728 : decode cL_law 728 = .ok (.aload_n 3, 1) := by decide +kernel
theorem dL_law_729 : decode cL_law 729 = .ok (.iconst 0, 1) := by decide +kernel
theorem dL_law_730 : decode cL_law 730 = .ok (.laload, 1) := by decide +kernel
theorem dL_law_731 : decode cL_law 731 = .ok (.iload 6, 2) := by decide +kernel
theorem dL_law_733 : decode cL_law 733 = .ok (.i2l, 1) := by decide +kernel
theorem dL_law_734 : decode cL_law 734 = .ok (.lcmp, 1) := by decide +kernel
theorem dL_law_735 : decode cL_law 735 = .ok (.ifCond .eq 5, 3) := by decide +kernel
theorem dL_law_738 : decode cL_law 738 = .ok (.iconst 0, 1) := by decide +kernel
theorem dL_law_739 : decode cL_law 739 = .ok (.ireturn, 1) := by decide +kernel
theorem dL_law_740 : decode cL_law 740 = .ok (.goto 691, 3) := by decide +kernel
theorem dL_law_743 : decode cL_law 743 = .ok (.aload_n 1, 1) := by decide +kernel
theorem dL_law_744 : decode cL_law 744 = .ok (.aload_n 0, 1) := by decide +kernel
theorem dL_law_745 : decode cL_law 745 = .ok (.iload 4, 2) := by decide +kernel
theorem dL_law_747 : decode cL_law 747 = .ok (.iconst 1, 1) := by decide +kernel
theorem dL_law_748 : decode cL_law 748 = .ok (.iadd, 1) := by decide +kernel
theorem dL_law_749 : decode cL_law 749 = .ok (.iaload, 1) := by decide +kernel
theorem dL_law_750 : decode cL_law 750 = .ok (.aload_n 3, 1) := by decide +kernel
theorem dL_law_751 : decode cL_law 751 = .ok (.invokestatic 122, 3) := by decide +kernel
theorem dL_law_754 : decode cL_law 754 = .ok (.istore 5, 2) := by decide +kernel
theorem dL_law_756 : decode cL_law 756 = .ok (.aload_n 2, 1) := by decide +kernel
theorem dL_law_757 : decode cL_law 757 = .ok (.aload_n 0, 1) := by decide +kernel
theorem dL_law_758 : decode cL_law 758 = .ok (.iload 4, 2) := by decide +kernel
theorem dL_law_760 : decode cL_law 760 = .ok (.iconst 1, 1) := by decide +kernel
theorem dL_law_761 : decode cL_law 761 = .ok (.iadd, 1) := by decide +kernel
theorem dL_law_762 : decode cL_law 762 = .ok (.iaload, 1) := by decide +kernel
theorem dL_law_763 : decode cL_law 763 = .ok (.invokevirtual 124, 3) := by decide +kernel
theorem dL_law_766 : decode cL_law 766 = .ok (.istore 6, 2) := by decide +kernel
theorem dL_law_768 : decode cL_law 768 = .ok (.aload_n 2, 1) := by decide +kernel
theorem dL_law_769 : decode cL_law 769 = .ok (.invokevirtual 91, 3) := by decide +kernel
theorem dL_law_772 : decode cL_law 772 = .ok (.iload 5, 2) := by decide +kernel
theorem dL_law_774 : decode cL_law 774 = .ok (.if_icmp .eq 5, 3) := by decide +kernel
theorem dL_law_777 : decode cL_law 777 = .ok (.iconst 0, 1) := by decide +kernel
theorem dL_law_778 : decode cL_law 778 = .ok (.ireturn, 1) := by decide +kernel
theorem dL_law_779 : decode cL_law 779 = .ok (.iload 5, 2) := by decide +kernel
theorem dL_law_781 : decode cL_law 781 = .ok (.ifCond .ne 15, 3) := by decide +kernel
theorem dL_law_784 : decode cL_law 784 = .ok (.aload_n 3, 1) := by decide +kernel
theorem dL_law_785 : decode cL_law 785 = .ok (.iconst 0, 1) := by decide +kernel
theorem dL_law_786 : decode cL_law 786 = .ok (.laload, 1) := by decide +kernel
theorem dL_law_787 : decode cL_law 787 = .ok (.iload 6, 2) := by decide +kernel
theorem dL_law_789 : decode cL_law 789 = .ok (.i2l, 1) := by decide +kernel
theorem dL_law_790 : decode cL_law 790 = .ok (.lcmp, 1) := by decide +kernel
theorem dL_law_791 : decode cL_law 791 = .ok (.ifCond .eq 5, 3) := by decide +kernel
theorem dL_law_794 : decode cL_law 794 = .ok (.iconst 0, 1) := by decide +kernel
theorem dL_law_795 : decode cL_law 795 = .ok (.ireturn, 1) := by decide +kernel
theorem dL_law_796 : decode cL_law 796 = .ok (.goto 635, 3) := by decide +kernel
theorem dL_law_799 : decode cL_law 799 = .ok (.aload_n 1, 1) := by decide +kernel
theorem dL_law_800 : decode cL_law 800 = .ok (.aload_n 0, 1) := by decide +kernel
theorem dL_law_801 : decode cL_law 801 = .ok (.iload 4, 2) := by decide +kernel
theorem dL_law_803 : decode cL_law 803 = .ok (.iconst 1, 1) := by decide +kernel
theorem dL_law_804 : decode cL_law 804 = .ok (.iadd, 1) := by decide +kernel
theorem dL_law_805 : decode cL_law 805 = .ok (.iaload, 1) := by decide +kernel
theorem dL_law_806 : decode cL_law 806 = .ok (.aload_n 0, 1) := by decide +kernel
theorem dL_law_807 : decode cL_law 807 = .ok (.iload 4, 2) := by decide +kernel
theorem dL_law_809 : decode cL_law 809 = .ok (.iconst 2, 1) := by decide +kernel
theorem dL_law_810 : decode cL_law 810 = .ok (.iadd, 1) := by decide +kernel
theorem dL_law_811 : decode cL_law 811 = .ok (.iaload, 1) := by decide +kernel
theorem dL_law_812 : decode cL_law 812 = .ok (.aload_n 0, 1) := by decide +kernel
theorem dL_law_813 : decode cL_law 813 = .ok (.iload 4, 2) := by decide +kernel
theorem dL_law_815 : decode cL_law 815 = .ok (.iconst 3, 1) := by decide +kernel
theorem dL_law_816 : decode cL_law 816 = .ok (.iadd, 1) := by decide +kernel
theorem dL_law_817 : decode cL_law 817 = .ok (.iaload, 1) := by decide +kernel
theorem dL_law_818 : decode cL_law 818 = .ok (.aload_n 0, 1) := by decide +kernel
theorem dL_law_819 : decode cL_law 819 = .ok (.iload 4, 2) := by decide +kernel
theorem dL_law_821 : decode cL_law 821 = .ok (.iconst 4, 1) := by decide +kernel
theorem dL_law_822 : decode cL_law 822 = .ok (.iadd, 1) := by decide +kernel
theorem dL_law_823 : decode cL_law 823 = .ok (.iaload, 1) := by decide +kernel
theorem dL_law_824 : decode cL_law 824 = .ok (.aload_n 3, 1) := by decide +kernel
theorem dL_law_825 : decode cL_law 825 = .ok (.invokestatic 125, 3) := by decide +kernel
theorem dL_law_828 : decode cL_law 828 = .ok (.istore 5, 2) := by decide +kernel
theorem dL_law_830 : decode cL_law 830 = .ok (.aload_n 2, 1) := by decide +kernel
theorem dL_law_831 : decode cL_law 831 = .ok (.aload_n 0, 1) := by decide +kernel
theorem dL_law_832 : decode cL_law 832 = .ok (.iload 4, 2) := by decide +kernel
theorem dL_law_834 : decode cL_law 834 = .ok (.iconst 1, 1) := by decide +kernel
theorem dL_law_835 : decode cL_law 835 = .ok (.iadd, 1) := by decide +kernel
theorem dL_law_836 : decode cL_law 836 = .ok (.iaload, 1) := by decide +kernel
theorem dL_law_837 : decode cL_law 837 = .ok (.aload_n 0, 1) := by decide +kernel
theorem dL_law_838 : decode cL_law 838 = .ok (.iload 4, 2) := by decide +kernel
theorem dL_law_840 : decode cL_law 840 = .ok (.iconst 2, 1) := by decide +kernel
theorem dL_law_841 : decode cL_law 841 = .ok (.iadd, 1) := by decide +kernel
theorem dL_law_842 : decode cL_law 842 = .ok (.iaload, 1) := by decide +kernel
theorem dL_law_843 : decode cL_law 843 = .ok (.aload_n 0, 1) := by decide +kernel
theorem dL_law_844 : decode cL_law 844 = .ok (.iload 4, 2) := by decide +kernel
theorem dL_law_846 : decode cL_law 846 = .ok (.iconst 3, 1) := by decide +kernel
theorem dL_law_847 : decode cL_law 847 = .ok (.iadd, 1) := by decide +kernel
theorem dL_law_848 : decode cL_law 848 = .ok (.iaload, 1) := by decide +kernel
theorem dL_law_849 : decode cL_law 849 = .ok (.aload_n 0, 1) := by decide +kernel
theorem dL_law_850 : decode cL_law 850 = .ok (.iload 4, 2) := by decide +kernel
theorem dL_law_852 : decode cL_law 852 = .ok (.iconst 4, 1) := by decide +kernel
theorem dL_law_853 : decode cL_law 853 = .ok (.iadd, 1) := by decide +kernel
theorem dL_law_854 : decode cL_law 854 = .ok (.iaload, 1) := by decide +kernel
theorem dL_law_855 : decode cL_law 855 = .ok (.invokevirtual 128, 3) := by decide +kernel
theorem dL_law_858 : decode cL_law 858 = .ok (.istore 6, 2) := by decide +kernel
theorem dL_law_860 : decode cL_law 860 = .ok (.aload_n 2, 1) := by decide +kernel
theorem dL_law_861 : decode cL_law 861 = .ok (.invokevirtual 91, 3) := by decide +kernel
theorem dL_law_864 : decode cL_law 864 = .ok (.iload 5, 2) := by decide +kernel
theorem dL_law_866 : decode cL_law 866 = .ok (.if_icmp .eq 5, 3) := by decide +kernel
theorem dL_law_869 : decode cL_law 869 = .ok (.iconst 0, 1) := by decide +kernel
theorem dL_law_870 : decode cL_law 870 = .ok (.ireturn, 1) := by decide +kernel
theorem dL_law_871 : decode cL_law 871 = .ok (.iload 5, 2) := by decide +kernel
theorem dL_law_873 : decode cL_law 873 = .ok (.ifCond .ne 15, 3) := by decide +kernel
theorem dL_law_876 : decode cL_law 876 = .ok (.aload_n 3, 1) := by decide +kernel
theorem dL_law_877 : decode cL_law 877 = .ok (.iconst 0, 1) := by decide +kernel
theorem dL_law_878 : decode cL_law 878 = .ok (.laload, 1) := by decide +kernel
theorem dL_law_879 : decode cL_law 879 = .ok (.iload 6, 2) := by decide +kernel
theorem dL_law_881 : decode cL_law 881 = .ok (.i2l, 1) := by decide +kernel
theorem dL_law_882 : decode cL_law 882 = .ok (.lcmp, 1) := by decide +kernel
theorem dL_law_883 : decode cL_law 883 = .ok (.ifCond .eq 5, 3) := by decide +kernel
theorem dL_law_886 : decode cL_law 886 = .ok (.iconst 0, 1) := by decide +kernel
theorem dL_law_887 : decode cL_law 887 = .ok (.ireturn, 1) := by decide +kernel
theorem dL_law_888 : decode cL_law 888 = .ok (.goto 543, 3) := by decide +kernel
theorem dL_law_891 : decode cL_law 891 = .ok (.aload_n 1, 1) := by decide +kernel
theorem dL_law_892 : decode cL_law 892 = .ok (.aload_n 0, 1) := by decide +kernel
theorem dL_law_893 : decode cL_law 893 = .ok (.iload 4, 2) := by decide +kernel
theorem dL_law_895 : decode cL_law 895 = .ok (.iconst 1, 1) := by decide +kernel
theorem dL_law_896 : decode cL_law 896 = .ok (.iadd, 1) := by decide +kernel
theorem dL_law_897 : decode cL_law 897 = .ok (.iaload, 1) := by decide +kernel
theorem dL_law_898 : decode cL_law 898 = .ok (.aload_n 0, 1) := by decide +kernel
theorem dL_law_899 : decode cL_law 899 = .ok (.iload 4, 2) := by decide +kernel
theorem dL_law_901 : decode cL_law 901 = .ok (.iconst 2, 1) := by decide +kernel
theorem dL_law_902 : decode cL_law 902 = .ok (.iadd, 1) := by decide +kernel
theorem dL_law_903 : decode cL_law 903 = .ok (.iaload, 1) := by decide +kernel
theorem dL_law_904 : decode cL_law 904 = .ok (.aload_n 3, 1) := by decide +kernel
theorem dL_law_905 : decode cL_law 905 = .ok (.invokestatic 129, 3) := by decide +kernel
theorem dL_law_908 : decode cL_law 908 = .ok (.istore 5, 2) := by decide +kernel
theorem dL_law_910 : decode cL_law 910 = .ok (.aload_n 2, 1) := by decide +kernel
theorem dL_law_911 : decode cL_law 911 = .ok (.aload_n 0, 1) := by decide +kernel
theorem dL_law_912 : decode cL_law 912 = .ok (.iload 4, 2) := by decide +kernel
theorem dL_law_914 : decode cL_law 914 = .ok (.iconst 1, 1) := by decide +kernel
theorem dL_law_915 : decode cL_law 915 = .ok (.iadd, 1) := by decide +kernel
theorem dL_law_916 : decode cL_law 916 = .ok (.iaload, 1) := by decide +kernel
theorem dL_law_917 : decode cL_law 917 = .ok (.aload_n 0, 1) := by decide +kernel
theorem dL_law_918 : decode cL_law 918 = .ok (.iload 4, 2) := by decide +kernel
theorem dL_law_920 : decode cL_law 920 = .ok (.iconst 2, 1) := by decide +kernel
theorem dL_law_921 : decode cL_law 921 = .ok (.iadd, 1) := by decide +kernel
theorem dL_law_922 : decode cL_law 922 = .ok (.iaload, 1) := by decide +kernel
theorem dL_law_923 : decode cL_law 923 = .ok (.invokevirtual 131, 3) := by decide +kernel
theorem dL_law_926 : decode cL_law 926 = .ok (.istore 6, 2) := by decide +kernel
theorem dL_law_928 : decode cL_law 928 = .ok (.aload_n 2, 1) := by decide +kernel
theorem dL_law_929 : decode cL_law 929 = .ok (.invokevirtual 91, 3) := by decide +kernel
theorem dL_law_932 : decode cL_law 932 = .ok (.iload 5, 2) := by decide +kernel
theorem dL_law_934 : decode cL_law 934 = .ok (.if_icmp .eq 5, 3) := by decide +kernel
theorem dL_law_937 : decode cL_law 937 = .ok (.iconst 0, 1) := by decide +kernel
theorem dL_law_938 : decode cL_law 938 = .ok (.ireturn, 1) := by decide +kernel
theorem dL_law_939 : decode cL_law 939 = .ok (.iload 5, 2) := by decide +kernel
theorem dL_law_941 : decode cL_law 941 = .ok (.ifCond .ne 15, 3) := by decide +kernel
theorem dL_law_944 : decode cL_law 944 = .ok (.aload_n 3, 1) := by decide +kernel
theorem dL_law_945 : decode cL_law 945 = .ok (.iconst 0, 1) := by decide +kernel
theorem dL_law_946 : decode cL_law 946 = .ok (.laload, 1) := by decide +kernel
theorem dL_law_947 : decode cL_law 947 = .ok (.iload 6, 2) := by decide +kernel
theorem dL_law_949 : decode cL_law 949 = .ok (.i2l, 1) := by decide +kernel
theorem dL_law_950 : decode cL_law 950 = .ok (.lcmp, 1) := by decide +kernel
theorem dL_law_951 : decode cL_law 951 = .ok (.ifCond .eq 5, 3) := by decide +kernel
theorem dL_law_954 : decode cL_law 954 = .ok (.iconst 0, 1) := by decide +kernel
theorem dL_law_955 : decode cL_law 955 = .ok (.ireturn, 1) := by decide +kernel
theorem dL_law_956 : decode cL_law 956 = .ok (.goto 475, 3) := by decide +kernel
theorem dL_law_959 : decode cL_law 959 = .ok (.aload_n 1, 1) := by decide +kernel
theorem dL_law_960 : decode cL_law 960 = .ok (.aload_n 0, 1) := by decide +kernel
theorem dL_law_961 : decode cL_law 961 = .ok (.iload 4, 2) := by decide +kernel
theorem dL_law_963 : decode cL_law 963 = .ok (.iconst 1, 1) := by decide +kernel
theorem dL_law_964 : decode cL_law 964 = .ok (.iadd, 1) := by decide +kernel
theorem dL_law_965 : decode cL_law 965 = .ok (.iaload, 1) := by decide +kernel
theorem dL_law_966 : decode cL_law 966 = .ok (.aload_n 3, 1) := by decide +kernel
theorem dL_law_967 : decode cL_law 967 = .ok (.invokestatic 132, 3) := by decide +kernel
theorem dL_law_970 : decode cL_law 970 = .ok (.istore 5, 2) := by decide +kernel
theorem dL_law_972 : decode cL_law 972 = .ok (.aload_n 2, 1) := by decide +kernel
theorem dL_law_973 : decode cL_law 973 = .ok (.aload_n 0, 1) := by decide +kernel
theorem dL_law_974 : decode cL_law 974 = .ok (.iload 4, 2) := by decide +kernel
theorem dL_law_976 : decode cL_law 976 = .ok (.iconst 1, 1) := by decide +kernel
theorem dL_law_977 : decode cL_law 977 = .ok (.iadd, 1) := by decide +kernel
theorem dL_law_978 : decode cL_law 978 = .ok (.iaload, 1) := by decide +kernel
theorem dL_law_979 : decode cL_law 979 = .ok (.invokevirtual 134, 3) := by decide +kernel
theorem dL_law_982 : decode cL_law 982 = .ok (.istore 6, 2) := by decide +kernel
theorem dL_law_984 : decode cL_law 984 = .ok (.aload_n 2, 1) := by decide +kernel
theorem dL_law_985 : decode cL_law 985 = .ok (.invokevirtual 91, 3) := by decide +kernel
theorem dL_law_988 : decode cL_law 988 = .ok (.iload 5, 2) := by decide +kernel
theorem dL_law_990 : decode cL_law 990 = .ok (.if_icmp .eq 5, 3) := by decide +kernel
theorem dL_law_993 : decode cL_law 993 = .ok (.iconst 0, 1) := by decide +kernel
theorem dL_law_994 : decode cL_law 994 = .ok (.ireturn, 1) := by decide +kernel
theorem dL_law_995 : decode cL_law 995 = .ok (.iload 5, 2) := by decide +kernel
theorem dL_law_997 : decode cL_law 997 = .ok (.ifCond .ne 15, 3) := by decide +kernel
theorem dL_law_1000 : decode cL_law 1000 = .ok (.aload_n 3, 1) := by decide +kernel
theorem dL_law_1001 : decode cL_law 1001 = .ok (.iconst 0, 1) := by decide +kernel
theorem dL_law_1002 : decode cL_law 1002 = .ok (.laload, 1) := by decide +kernel
theorem dL_law_1003 : decode cL_law 1003 = .ok (.iload 6, 2) := by decide +kernel
theorem dL_law_1005 : decode cL_law 1005 = .ok (.i2l, 1) := by decide +kernel
theorem dL_law_1006 : decode cL_law 1006 = .ok (.lcmp, 1) := by decide +kernel
theorem dL_law_1007 : decode cL_law 1007 = .ok (.ifCond .eq 5, 3) := by decide +kernel
theorem dL_law_1010 : decode cL_law 1010 = .ok (.iconst 0, 1) := by decide +kernel
theorem dL_law_1011 : decode cL_law 1011 = .ok (.ireturn, 1) := by decide +kernel
theorem dL_law_1012 : decode cL_law 1012 = .ok (.goto 419, 3) := by decide +kernel
theorem dL_law_1015 : decode cL_law 1015 = .ok (.aload_n 1, 1) := by decide +kernel
theorem dL_law_1016 : decode cL_law 1016 = .ok (.aload_n 0, 1) := by decide +kernel
theorem dL_law_1017 : decode cL_law 1017 = .ok (.iload 4, 2) := by decide +kernel
theorem dL_law_1019 : decode cL_law 1019 = .ok (.iconst 1, 1) := by decide +kernel
theorem dL_law_1020 : decode cL_law 1020 = .ok (.iadd, 1) := by decide +kernel
theorem dL_law_1021 : decode cL_law 1021 = .ok (.iaload, 1) := by decide +kernel
theorem dL_law_1022 : decode cL_law 1022 = .ok (.aload_n 3, 1) := by decide +kernel
theorem dL_law_1023 : decode cL_law 1023 = .ok (.invokestatic 135, 3) := by decide +kernel
theorem dL_law_1026 : decode cL_law 1026 = .ok (.istore 5, 2) := by decide +kernel
theorem dL_law_1028 : decode cL_law 1028 = .ok (.aload_n 2, 1) := by decide +kernel
theorem dL_law_1029 : decode cL_law 1029 = .ok (.aload_n 0, 1) := by decide +kernel
theorem dL_law_1030 : decode cL_law 1030 = .ok (.iload 4, 2) := by decide +kernel
theorem dL_law_1032 : decode cL_law 1032 = .ok (.iconst 1, 1) := by decide +kernel
theorem dL_law_1033 : decode cL_law 1033 = .ok (.iadd, 1) := by decide +kernel
theorem dL_law_1034 : decode cL_law 1034 = .ok (.iaload, 1) := by decide +kernel
theorem dL_law_1035 : decode cL_law 1035 = .ok (.invokevirtual 137, 3) := by decide +kernel
theorem dL_law_1038 : decode cL_law 1038 = .ok (.istore 6, 2) := by decide +kernel
theorem dL_law_1040 : decode cL_law 1040 = .ok (.aload_n 2, 1) := by decide +kernel
theorem dL_law_1041 : decode cL_law 1041 = .ok (.invokevirtual 91, 3) := by decide +kernel
theorem dL_law_1044 : decode cL_law 1044 = .ok (.iload 5, 2) := by decide +kernel
theorem dL_law_1046 : decode cL_law 1046 = .ok (.if_icmp .eq 5, 3) := by decide +kernel
theorem dL_law_1049 : decode cL_law 1049 = .ok (.iconst 0, 1) := by decide +kernel
theorem dL_law_1050 : decode cL_law 1050 = .ok (.ireturn, 1) := by decide +kernel
theorem dL_law_1051 : decode cL_law 1051 = .ok (.iload 5, 2) := by decide +kernel
theorem dL_law_1053 : decode cL_law 1053 = .ok (.ifCond .ne 15, 3) := by decide +kernel
theorem dL_law_1056 : decode cL_law 1056 = .ok (.aload_n 3, 1) := by decide +kernel
theorem dL_law_1057 : decode cL_law 1057 = .ok (.iconst 0, 1) := by decide +kernel
theorem dL_law_1058 : decode cL_law 1058 = .ok (.laload, 1) := by decide +kernel
theorem dL_law_1059 : decode cL_law 1059 = .ok (.iload 6, 2) := by decide +kernel
theorem dL_law_1061 : decode cL_law 1061 = .ok (.i2l, 1) := by decide +kernel
theorem dL_law_1062 : decode cL_law 1062 = .ok (.lcmp, 1) := by decide +kernel
theorem dL_law_1063 : decode cL_law 1063 = .ok (.ifCond .eq 5, 3) := by decide +kernel
theorem dL_law_1066 : decode cL_law 1066 = .ok (.iconst 0, 1) := by decide +kernel
theorem dL_law_1067 : decode cL_law 1067 = .ok (.ireturn, 1) := by decide +kernel
theorem dL_law_1068 : decode cL_law 1068 = .ok (.goto 363, 3) := by decide +kernel
theorem dL_law_1071 : decode cL_law 1071 = .ok (.aload_n 1, 1) := by decide +kernel
theorem dL_law_1072 : decode cL_law 1072 = .ok (.aload_n 0, 1) := by decide +kernel
theorem dL_law_1073 : decode cL_law 1073 = .ok (.iload 4, 2) := by decide +kernel
theorem dL_law_1075 : decode cL_law 1075 = .ok (.iconst 1, 1) := by decide +kernel
theorem dL_law_1076 : decode cL_law 1076 = .ok (.iadd, 1) := by decide +kernel
theorem dL_law_1077 : decode cL_law 1077 = .ok (.iaload, 1) := by decide +kernel
theorem dL_law_1078 : decode cL_law 1078 = .ok (.aload_n 3, 1) := by decide +kernel
theorem dL_law_1079 : decode cL_law 1079 = .ok (.invokestatic 138, 3) := by decide +kernel
theorem dL_law_1082 : decode cL_law 1082 = .ok (.istore 5, 2) := by decide +kernel
theorem dL_law_1084 : decode cL_law 1084 = .ok (.aload_n 2, 1) := by decide +kernel
theorem dL_law_1085 : decode cL_law 1085 = .ok (.aload_n 0, 1) := by decide +kernel
theorem dL_law_1086 : decode cL_law 1086 = .ok (.iload 4, 2) := by decide +kernel
theorem dL_law_1088 : decode cL_law 1088 = .ok (.iconst 1, 1) := by decide +kernel
theorem dL_law_1089 : decode cL_law 1089 = .ok (.iadd, 1) := by decide +kernel
theorem dL_law_1090 : decode cL_law 1090 = .ok (.iaload, 1) := by decide +kernel
theorem dL_law_1091 : decode cL_law 1091 = .ok (.invokevirtual 140, 3) := by decide +kernel
theorem dL_law_1094 : decode cL_law 1094 = .ok (.istore 6, 2) := by decide +kernel
theorem dL_law_1096 : decode cL_law 1096 = .ok (.aload_n 2, 1) := by decide +kernel
theorem dL_law_1097 : decode cL_law 1097 = .ok (.invokevirtual 91, 3) := by decide +kernel
theorem dL_law_1100 : decode cL_law 1100 = .ok (.iload 5, 2) := by decide +kernel
theorem dL_law_1102 : decode cL_law 1102 = .ok (.if_icmp .eq 5, 3) := by decide +kernel
theorem dL_law_1105 : decode cL_law 1105 = .ok (.iconst 0, 1) := by decide +kernel
theorem dL_law_1106 : decode cL_law 1106 = .ok (.ireturn, 1) := by decide +kernel
theorem dL_law_1107 : decode cL_law 1107 = .ok (.iload 5, 2) := by decide +kernel
theorem dL_law_1109 : decode cL_law 1109 = .ok (.ifCond .ne 15, 3) := by decide +kernel
theorem dL_law_1112 : decode cL_law 1112 = .ok (.aload_n 3, 1) := by decide +kernel
theorem dL_law_1113 : decode cL_law 1113 = .ok (.iconst 0, 1) := by decide +kernel
theorem dL_law_1114 : decode cL_law 1114 = .ok (.laload, 1) := by decide +kernel
theorem dL_law_1115 : decode cL_law 1115 = .ok (.iload 6, 2) := by decide +kernel
theorem dL_law_1117 : decode cL_law 1117 = .ok (.i2l, 1) := by decide +kernel
theorem dL_law_1118 : decode cL_law 1118 = .ok (.lcmp, 1) := by decide +kernel
theorem dL_law_1119 : decode cL_law 1119 = .ok (.ifCond .eq 5, 3) := by decide +kernel
theorem dL_law_1122 : decode cL_law 1122 = .ok (.iconst 0, 1) := by decide +kernel
theorem dL_law_1123 : decode cL_law 1123 = .ok (.ireturn, 1) := by decide +kernel
theorem dL_law_1124 : decode cL_law 1124 = .ok (.goto 307, 3) := by decide +kernel
theorem dL_law_1127 : decode cL_law 1127 = .ok (.aload_n 1, 1) := by decide +kernel
theorem dL_law_1128 : decode cL_law 1128 = .ok (.aload_n 0, 1) := by decide +kernel
theorem dL_law_1129 : decode cL_law 1129 = .ok (.iload 4, 2) := by decide +kernel
theorem dL_law_1131 : decode cL_law 1131 = .ok (.iconst 1, 1) := by decide +kernel
theorem dL_law_1132 : decode cL_law 1132 = .ok (.iadd, 1) := by decide +kernel
theorem dL_law_1133 : decode cL_law 1133 = .ok (.iaload, 1) := by decide +kernel
theorem dL_law_1134 : decode cL_law 1134 = .ok (.aload_n 0, 1) := by decide +kernel
theorem dL_law_1135 : decode cL_law 1135 = .ok (.iload 4, 2) := by decide +kernel
theorem dL_law_1137 : decode cL_law 1137 = .ok (.iconst 2, 1) := by decide +kernel
theorem dL_law_1138 : decode cL_law 1138 = .ok (.iadd, 1) := by decide +kernel
theorem dL_law_1139 : decode cL_law 1139 = .ok (.iaload, 1) := by decide +kernel
theorem dL_law_1140 : decode cL_law 1140 = .ok (.aload_n 3, 1) := by decide +kernel
theorem dL_law_1141 : decode cL_law 1141 = .ok (.invokestatic 141, 3) := by decide +kernel
theorem dL_law_1144 : decode cL_law 1144 = .ok (.istore 5, 2) := by decide +kernel
theorem dL_law_1146 : decode cL_law 1146 = .ok (.aload_n 2, 1) := by decide +kernel
theorem dL_law_1147 : decode cL_law 1147 = .ok (.aload_n 0, 1) := by decide +kernel
theorem dL_law_1148 : decode cL_law 1148 = .ok (.iload 4, 2) := by decide +kernel
theorem dL_law_1150 : decode cL_law 1150 = .ok (.iconst 1, 1) := by decide +kernel
theorem dL_law_1151 : decode cL_law 1151 = .ok (.iadd, 1) := by decide +kernel
theorem dL_law_1152 : decode cL_law 1152 = .ok (.iaload, 1) := by decide +kernel
theorem dL_law_1153 : decode cL_law 1153 = .ok (.aload_n 0, 1) := by decide +kernel
theorem dL_law_1154 : decode cL_law 1154 = .ok (.iload 4, 2) := by decide +kernel
theorem dL_law_1156 : decode cL_law 1156 = .ok (.iconst 2, 1) := by decide +kernel
theorem dL_law_1157 : decode cL_law 1157 = .ok (.iadd, 1) := by decide +kernel
theorem dL_law_1158 : decode cL_law 1158 = .ok (.iaload, 1) := by decide +kernel
theorem dL_law_1159 : decode cL_law 1159 = .ok (.invokevirtual 143, 3) := by decide +kernel
theorem dL_law_1162 : decode cL_law 1162 = .ok (.istore 6, 2) := by decide +kernel
theorem dL_law_1164 : decode cL_law 1164 = .ok (.aload_n 2, 1) := by decide +kernel
theorem dL_law_1165 : decode cL_law 1165 = .ok (.invokevirtual 91, 3) := by decide +kernel
theorem dL_law_1168 : decode cL_law 1168 = .ok (.iload 5, 2) := by decide +kernel
theorem dL_law_1170 : decode cL_law 1170 = .ok (.if_icmp .eq 5, 3) := by decide +kernel
theorem dL_law_1173 : decode cL_law 1173 = .ok (.iconst 0, 1) := by decide +kernel
theorem dL_law_1174 : decode cL_law 1174 = .ok (.ireturn, 1) := by decide +kernel
theorem dL_law_1175 : decode cL_law 1175 = .ok (.iload 5, 2) := by decide +kernel
theorem dL_law_1177 : decode cL_law 1177 = .ok (.ifCond .ne 15, 3) := by decide +kernel
theorem dL_law_1180 : decode cL_law 1180 = .ok (.aload_n 3, 1) := by decide +kernel
theorem dL_law_1181 : decode cL_law 1181 = .ok (.iconst 0, 1) := by decide +kernel
theorem dL_law_1182 : decode cL_law 1182 = .ok (.laload, 1) := by decide +kernel
theorem dL_law_1183 : decode cL_law 1183 = .ok (.iload 6, 2) := by decide +kernel
theorem dL_law_1185 : decode cL_law 1185 = .ok (.i2l, 1) := by decide +kernel
theorem dL_law_1186 : decode cL_law 1186 = .ok (.lcmp, 1) := by decide +kernel
theorem dL_law_1187 : decode cL_law 1187 = .ok (.ifCond .eq 5, 3) := by decide +kernel
theorem dL_law_1190 : decode cL_law 1190 = .ok (.iconst 0, 1) := by decide +kernel
theorem dL_law_1191 : decode cL_law 1191 = .ok (.ireturn, 1) := by decide +kernel
theorem dL_law_1192 : decode cL_law 1192 = .ok (.goto 239, 3) := by decide +kernel
theorem dL_law_1195 : decode cL_law 1195 = .ok (.aload_n 1, 1) := by decide +kernel
theorem dL_law_1196 : decode cL_law 1196 = .ok (.aload_n 0, 1) := by decide +kernel
theorem dL_law_1197 : decode cL_law 1197 = .ok (.iload 4, 2) := by decide +kernel
theorem dL_law_1199 : decode cL_law 1199 = .ok (.iconst 1, 1) := by decide +kernel
theorem dL_law_1200 : decode cL_law 1200 = .ok (.iadd, 1) := by decide +kernel
theorem dL_law_1201 : decode cL_law 1201 = .ok (.iaload, 1) := by decide +kernel
theorem dL_law_1202 : decode cL_law 1202 = .ok (.aload_n 0, 1) := by decide +kernel
theorem dL_law_1203 : decode cL_law 1203 = .ok (.iload 4, 2) := by decide +kernel
theorem dL_law_1205 : decode cL_law 1205 = .ok (.iconst 2, 1) := by decide +kernel
theorem dL_law_1206 : decode cL_law 1206 = .ok (.iadd, 1) := by decide +kernel
theorem dL_law_1207 : decode cL_law 1207 = .ok (.iaload, 1) := by decide +kernel
theorem dL_law_1208 : decode cL_law 1208 = .ok (.aload_n 3, 1) := by decide +kernel
theorem dL_law_1209 : decode cL_law 1209 = .ok (.invokestatic 144, 3) := by decide +kernel
theorem dL_law_1212 : decode cL_law 1212 = .ok (.istore 5, 2) := by decide +kernel
theorem dL_law_1214 : decode cL_law 1214 = .ok (.aload_n 2, 1) := by decide +kernel
theorem dL_law_1215 : decode cL_law 1215 = .ok (.aload_n 0, 1) := by decide +kernel
theorem dL_law_1216 : decode cL_law 1216 = .ok (.iload 4, 2) := by decide +kernel
theorem dL_law_1218 : decode cL_law 1218 = .ok (.iconst 1, 1) := by decide +kernel
theorem dL_law_1219 : decode cL_law 1219 = .ok (.iadd, 1) := by decide +kernel
theorem dL_law_1220 : decode cL_law 1220 = .ok (.iaload, 1) := by decide +kernel
theorem dL_law_1221 : decode cL_law 1221 = .ok (.aload_n 0, 1) := by decide +kernel
theorem dL_law_1222 : decode cL_law 1222 = .ok (.iload 4, 2) := by decide +kernel
theorem dL_law_1224 : decode cL_law 1224 = .ok (.iconst 2, 1) := by decide +kernel
theorem dL_law_1225 : decode cL_law 1225 = .ok (.iadd, 1) := by decide +kernel
theorem dL_law_1226 : decode cL_law 1226 = .ok (.iaload, 1) := by decide +kernel
theorem dL_law_1227 : decode cL_law 1227 = .ok (.invokevirtual 146, 3) := by decide +kernel
theorem dL_law_1230 : decode cL_law 1230 = .ok (.istore 6, 2) := by decide +kernel
theorem dL_law_1232 : decode cL_law 1232 = .ok (.aload_n 2, 1) := by decide +kernel
theorem dL_law_1233 : decode cL_law 1233 = .ok (.invokevirtual 91, 3) := by decide +kernel
theorem dL_law_1236 : decode cL_law 1236 = .ok (.iload 5, 2) := by decide +kernel
theorem dL_law_1238 : decode cL_law 1238 = .ok (.if_icmp .eq 5, 3) := by decide +kernel
theorem dL_law_1241 : decode cL_law 1241 = .ok (.iconst 0, 1) := by decide +kernel
theorem dL_law_1242 : decode cL_law 1242 = .ok (.ireturn, 1) := by decide +kernel
theorem dL_law_1243 : decode cL_law 1243 = .ok (.iload 5, 2) := by decide +kernel
theorem dL_law_1245 : decode cL_law 1245 = .ok (.ifCond .ne 15, 3) := by decide +kernel
theorem dL_law_1248 : decode cL_law 1248 = .ok (.aload_n 3, 1) := by decide +kernel
theorem dL_law_1249 : decode cL_law 1249 = .ok (.iconst 0, 1) := by decide +kernel
theorem dL_law_1250 : decode cL_law 1250 = .ok (.laload, 1) := by decide +kernel
theorem dL_law_1251 : decode cL_law 1251 = .ok (.iload 6, 2) := by decide +kernel
theorem dL_law_1253 : decode cL_law 1253 = .ok (.i2l, 1) := by decide +kernel
theorem dL_law_1254 : decode cL_law 1254 = .ok (.lcmp, 1) := by decide +kernel
theorem dL_law_1255 : decode cL_law 1255 = .ok (.ifCond .eq 5, 3) := by decide +kernel
theorem dL_law_1258 : decode cL_law 1258 = .ok (.iconst 0, 1) := by decide +kernel
theorem dL_law_1259 : decode cL_law 1259 = .ok (.ireturn, 1) := by decide +kernel
theorem dL_law_1260 : decode cL_law 1260 = .ok (.goto 171, 3) := by decide +kernel
theorem dL_law_1263 : decode cL_law 1263 = .ok (.aload_n 1, 1) := by decide +kernel
theorem dL_law_1264 : decode cL_law 1264 = .ok (.aload_n 0, 1) := by decide +kernel
theorem dL_law_1265 : decode cL_law 1265 = .ok (.iload 4, 2) := by decide +kernel
theorem dL_law_1267 : decode cL_law 1267 = .ok (.iconst 1, 1) := by decide +kernel
theorem dL_law_1268 : decode cL_law 1268 = .ok (.iadd, 1) := by decide +kernel
theorem dL_law_1269 : decode cL_law 1269 = .ok (.iaload, 1) := by decide +kernel
theorem dL_law_1270 : decode cL_law 1270 = .ok (.aload_n 3, 1) := by decide +kernel
theorem dL_law_1271 : decode cL_law 1271 = .ok (.invokestatic 147, 3) := by decide +kernel
theorem dL_law_1274 : decode cL_law 1274 = .ok (.istore 5, 2) := by decide +kernel
theorem dL_law_1276 : decode cL_law 1276 = .ok (.aload_n 2, 1) := by decide +kernel
theorem dL_law_1277 : decode cL_law 1277 = .ok (.aload_n 0, 1) := by decide +kernel
theorem dL_law_1278 : decode cL_law 1278 = .ok (.iload 4, 2) := by decide +kernel
theorem dL_law_1280 : decode cL_law 1280 = .ok (.iconst 1, 1) := by decide +kernel
theorem dL_law_1281 : decode cL_law 1281 = .ok (.iadd, 1) := by decide +kernel
theorem dL_law_1282 : decode cL_law 1282 = .ok (.iaload, 1) := by decide +kernel
theorem dL_law_1283 : decode cL_law 1283 = .ok (.invokevirtual 149, 3) := by decide +kernel
theorem dL_law_1286 : decode cL_law 1286 = .ok (.istore 6, 2) := by decide +kernel
theorem dL_law_1288 : decode cL_law 1288 = .ok (.aload_n 2, 1) := by decide +kernel
theorem dL_law_1289 : decode cL_law 1289 = .ok (.invokevirtual 91, 3) := by decide +kernel
theorem dL_law_1292 : decode cL_law 1292 = .ok (.iload 5, 2) := by decide +kernel
theorem dL_law_1294 : decode cL_law 1294 = .ok (.if_icmp .eq 5, 3) := by decide +kernel
theorem dL_law_1297 : decode cL_law 1297 = .ok (.iconst 0, 1) := by decide +kernel
theorem dL_law_1298 : decode cL_law 1298 = .ok (.ireturn, 1) := by decide +kernel
theorem dL_law_1299 : decode cL_law 1299 = .ok (.iload 5, 2) := by decide +kernel
theorem dL_law_1301 : decode cL_law 1301 = .ok (.ifCond .ne 15, 3) := by decide +kernel
theorem dL_law_1304 : decode cL_law 1304 = .ok (.aload_n 3, 1) := by decide +kernel
theorem dL_law_1305 : decode cL_law 1305 = .ok (.iconst 0, 1) := by decide +kernel
theorem dL_law_1306 : decode cL_law 1306 = .ok (.laload, 1) := by decide +kernel
theorem dL_law_1307 : decode cL_law 1307 = .ok (.iload 6, 2) := by decide +kernel
theorem dL_law_1309 : decode cL_law 1309 = .ok (.i2l, 1) := by decide +kernel
theorem dL_law_1310 : decode cL_law 1310 = .ok (.lcmp, 1) := by decide +kernel
theorem dL_law_1311 : decode cL_law 1311 = .ok (.ifCond .eq 5, 3) := by decide +kernel
theorem dL_law_1314 : decode cL_law 1314 = .ok (.iconst 0, 1) := by decide +kernel
theorem dL_law_1315 : decode cL_law 1315 = .ok (.ireturn, 1) := by decide +kernel
theorem dL_law_1316 : decode cL_law 1316 = .ok (.goto 115, 3) := by decide +kernel
theorem dL_law_1319 : decode cL_law 1319 = .ok (.aload_n 1, 1) := by decide +kernel
theorem dL_law_1320 : decode cL_law 1320 = .ok (.aload_n 0, 1) := by decide +kernel
theorem dL_law_1321 : decode cL_law 1321 = .ok (.iload 4, 2) := by decide +kernel
theorem dL_law_1323 : decode cL_law 1323 = .ok (.iconst 1, 1) := by decide +kernel
theorem dL_law_1324 : decode cL_law 1324 = .ok (.iadd, 1) := by decide +kernel
theorem dL_law_1325 : decode cL_law 1325 = .ok (.iaload, 1) := by decide +kernel
theorem dL_law_1326 : decode cL_law 1326 = .ok (.aload_n 3, 1) := by decide +kernel
theorem dL_law_1327 : decode cL_law 1327 = .ok (.invokestatic 150, 3) := by decide +kernel
theorem dL_law_1330 : decode cL_law 1330 = .ok (.istore 5, 2) := by decide +kernel
theorem dL_law_1332 : decode cL_law 1332 = .ok (.aload_n 2, 1) := by decide +kernel
theorem dL_law_1333 : decode cL_law 1333 = .ok (.aload_n 0, 1) := by decide +kernel
theorem dL_law_1334 : decode cL_law 1334 = .ok (.iload 4, 2) := by decide +kernel
theorem dL_law_1336 : decode cL_law 1336 = .ok (.iconst 1, 1) := by decide +kernel
theorem dL_law_1337 : decode cL_law 1337 = .ok (.iadd, 1) := by decide +kernel
theorem dL_law_1338 : decode cL_law 1338 = .ok (.iaload, 1) := by decide +kernel
theorem dL_law_1339 : decode cL_law 1339 = .ok (.invokevirtual 152, 3) := by decide +kernel
theorem dL_law_1342 : decode cL_law 1342 = .ok (.istore 6, 2) := by decide +kernel
theorem dL_law_1344 : decode cL_law 1344 = .ok (.aload_n 2, 1) := by decide +kernel
theorem dL_law_1345 : decode cL_law 1345 = .ok (.invokevirtual 91, 3) := by decide +kernel
theorem dL_law_1348 : decode cL_law 1348 = .ok (.iload 5, 2) := by decide +kernel
theorem dL_law_1350 : decode cL_law 1350 = .ok (.if_icmp .eq 5, 3) := by decide +kernel
theorem dL_law_1353 : decode cL_law 1353 = .ok (.iconst 0, 1) := by decide +kernel
theorem dL_law_1354 : decode cL_law 1354 = .ok (.ireturn, 1) := by decide +kernel
theorem dL_law_1355 : decode cL_law 1355 = .ok (.iload 5, 2) := by decide +kernel
theorem dL_law_1357 : decode cL_law 1357 = .ok (.ifCond .ne 15, 3) := by decide +kernel
theorem dL_law_1360 : decode cL_law 1360 = .ok (.aload_n 3, 1) := by decide +kernel
theorem dL_law_1361 : decode cL_law 1361 = .ok (.iconst 0, 1) := by decide +kernel
theorem dL_law_1362 : decode cL_law 1362 = .ok (.laload, 1) := by decide +kernel
theorem dL_law_1363 : decode cL_law 1363 = .ok (.iload 6, 2) := by decide +kernel
theorem dL_law_1365 : decode cL_law 1365 = .ok (.i2l, 1) := by decide +kernel
theorem dL_law_1366 : decode cL_law 1366 = .ok (.lcmp, 1) := by decide +kernel
theorem dL_law_1367 : decode cL_law 1367 = .ok (.ifCond .eq 5, 3) := by decide +kernel
theorem dL_law_1370 : decode cL_law 1370 = .ok (.iconst 0, 1) := by decide +kernel
theorem dL_law_1371 : decode cL_law 1371 = .ok (.ireturn, 1) := by decide +kernel
theorem dL_law_1372 : decode cL_law 1372 = .ok (.goto 59, 3) := by decide +kernel
theorem dL_law_1375 : decode cL_law 1375 = .ok (.aload_n 1, 1) := by decide +kernel
theorem dL_law_1376 : decode cL_law 1376 = .ok (.aload_n 0, 1) := by decide +kernel
theorem dL_law_1377 : decode cL_law 1377 = .ok (.iload 4, 2) := by decide +kernel
theorem dL_law_1379 : decode cL_law 1379 = .ok (.iconst 1, 1) := by decide +kernel
theorem dL_law_1380 : decode cL_law 1380 = .ok (.iadd, 1) := by decide +kernel
theorem dL_law_1381 : decode cL_law 1381 = .ok (.iaload, 1) := by decide +kernel
theorem dL_law_1382 : decode cL_law 1382 = .ok (.aload_n 3, 1) := by decide +kernel
theorem dL_law_1383 : decode cL_law 1383 = .ok (.invokestatic 153, 3) := by decide +kernel
theorem dL_law_1386 : decode cL_law 1386 = .ok (.istore 5, 2) := by decide +kernel
theorem dL_law_1388 : decode cL_law 1388 = .ok (.aload_n 2, 1) := by decide +kernel
theorem dL_law_1389 : decode cL_law 1389 = .ok (.aload_n 0, 1) := by decide +kernel
theorem dL_law_1390 : decode cL_law 1390 = .ok (.iload 4, 2) := by decide +kernel
theorem dL_law_1392 : decode cL_law 1392 = .ok (.iconst 1, 1) := by decide +kernel
theorem dL_law_1393 : decode cL_law 1393 = .ok (.iadd, 1) := by decide +kernel
theorem dL_law_1394 : decode cL_law 1394 = .ok (.iaload, 1) := by decide +kernel
theorem dL_law_1395 : decode cL_law 1395 = .ok (.invokevirtual 155, 3) := by decide +kernel
theorem dL_law_1398 : decode cL_law 1398 = .ok (.istore 6, 2) := by decide +kernel
theorem dL_law_1400 : decode cL_law 1400 = .ok (.aload_n 2, 1) := by decide +kernel
theorem dL_law_1401 : decode cL_law 1401 = .ok (.invokevirtual 91, 3) := by decide +kernel
theorem dL_law_1404 : decode cL_law 1404 = .ok (.iload 5, 2) := by decide +kernel
theorem dL_law_1406 : decode cL_law 1406 = .ok (.if_icmp .eq 5, 3) := by decide +kernel
theorem dL_law_1409 : decode cL_law 1409 = .ok (.iconst 0, 1) := by decide +kernel
theorem dL_law_1410 : decode cL_law 1410 = .ok (.ireturn, 1) := by decide +kernel
theorem dL_law_1411 : decode cL_law 1411 = .ok (.iload 5, 2) := by decide +kernel
theorem dL_law_1413 : decode cL_law 1413 = .ok (.ifCond .ne 15, 3) := by decide +kernel
theorem dL_law_1416 : decode cL_law 1416 = .ok (.aload_n 3, 1) := by decide +kernel
theorem dL_law_1417 : decode cL_law 1417 = .ok (.iconst 0, 1) := by decide +kernel
theorem dL_law_1418 : decode cL_law 1418 = .ok (.laload, 1) := by decide +kernel
theorem dL_law_1419 : decode cL_law 1419 = .ok (.iload 6, 2) := by decide +kernel
theorem dL_law_1421 : decode cL_law 1421 = .ok (.i2l, 1) := by decide +kernel
theorem dL_law_1422 : decode cL_law 1422 = .ok (.lcmp, 1) := by decide +kernel
theorem dL_law_1423 : decode cL_law 1423 = .ok (.ifCond .eq 5, 3) := by decide +kernel
theorem dL_law_1426 : decode cL_law 1426 = .ok (.iconst 0, 1) := by decide +kernel
theorem dL_law_1427 : decode cL_law 1427 = .ok (.ireturn, 1) := by decide +kernel
theorem dL_law_1428 : decode cL_law 1428 = .ok (.goto 3, 3) := by decide +kernel
theorem dL_law_1431 : decode cL_law 1431 = .ok (.iinc 4 5, 3) := by decide +kernel
theorem dL_law_1434 : decode cL_law 1434 = .ok (.goto (-1411), 3) := by decide +kernel
theorem dL_law_1437 : decode cL_law 1437 = .ok (.iconst 1, 1) := by decide +kernel
theorem dL_law_1438 : decode cL_law 1438 = .ok (.ireturn, 1) := by decide +kernel
abbrev vwCl : List vw_C := [(RX0, TX0, 4), (RX1, TX1, 6), (RX2, TX2, 14), (RX3, TX3, 4), (RX4, TX4, 2), (RX5, TX5, 6), (RX6, TX6, 28)]
end
section
/-! THE WORLD AS MAPS. A heap's own part is told by maps: of what kind an address is (zK: 0 none, 1..7 objects of vwCl 0..6, 8 int[] of the reference, 9 boolean[], 10 Offence[], 11 Order[], 12 Person[], 13 ToolKind[], 14 long[], 15 int[] of a purse), int fields (zI, by field number 100*class+place), reference fields (zP), lengths (zN), int rows (zR), reference rows (zQ), long rows (zJ). -/
abbrev zW : Type := (Nat → Nat) × (Nat → Nat → Int32) × (Nat → Nat → Option Nat) × (Nat → Nat) × (Nat → Nat → Int32) × (Nat → Nat → Option Nat) × (Nat → Nat → Int64)
def zK (w : zW) (a : Nat) : Nat := w.1 a
def zI (w : zW) (g a : Nat) : Int32 := w.2.1 g a
def zP (w : zW) (g a : Nat) : Option Nat := w.2.2.1 g a
def zN (w : zW) (a : Nat) : Nat := w.2.2.2.1 a
def zR (w : zW) (a : Nat) : Nat → Int32 := w.2.2.2.2.1 a
def zQ (w : zW) (a : Nat) : Nat → Option Nat := w.2.2.2.2.2.1 a
def zJ (w : zW) (a : Nat) : Nat → Int64 := w.2.2.2.2.2.2 a
/-- one place of a map of two numbers -/
def z2 {α : Type} (f : Nat → Nat → α) (g a : Nat) (v : α) : Nat → Nat → α := fun h => if h = g then va_up (f h) a v else f h
def zsI (w : zW) (g a : Nat) (v : Int32) : zW := (w.1, z2 w.2.1 g a v, w.2.2)
def zsP (w : zW) (g a : Nat) (v : Option Nat) : zW := (w.1, w.2.1, z2 w.2.2.1 g a v, w.2.2.2)
def zsR (w : zW) (a i : Nat) (v : Int32) : zW := (w.1, w.2.1, w.2.2.1, w.2.2.2.1, z2 w.2.2.2.2.1 a i v, w.2.2.2.2.2)
def zsQ (w : zW) (a i : Nat) (v : Option Nat) : zW := (w.1, w.2.1, w.2.2.1, w.2.2.2.1, w.2.2.2.2.1, z2 w.2.2.2.2.2.1 a i v, w.2.2.2.2.2.2)
def zsJ (w : zW) (a i : Nat) (v : Int64) : zW := (w.1, w.2.1, w.2.2.1, w.2.2.2.1, w.2.2.2.2.1, w.2.2.2.2.2.1, z2 w.2.2.2.2.2.2 a i v)
/-- a new thing of kind k, of length n, at q: all of it 0, null -/
def zNew (w : zW) (q k n : Nat) : zW := (va_up w.1 q k, (fun g b => if b = q then 0 else w.2.1 g b), (fun g b => if b = q then none else w.2.2.1 g b), va_up w.2.2.2.1 q n, (fun b i => if b = q then 0 else w.2.2.2.2.1 b i), (fun b i => if b = q then none else w.2.2.2.2.2.1 b i), (fun b i => if b = q then 0 else w.2.2.2.2.2.2 b i))
theorem z2_same {α : Type} (f : Nat → Nat → α) (g a : Nat) (v : α) : z2 f g a v g a = v := by simp [z2, va_up]
theorem z2_ne1 {α : Type} (f : Nat → Nat → α) {g h : Nat} (a : Nat) (v : α) (hg : h ≠ g) : z2 f g a v h = f h := by simp [z2, hg]
theorem z2_ne2 {α : Type} (f : Nat → Nat → α) (g h : Nat) {a b : Nat} (v : α) (hb : b ≠ a) : z2 f g a v h b = f h b := by
  unfold z2
  by_cases h1 : h = g
  · simp [h1, va_up, hb]
  · simp [h1]
theorem z2_at {α : Type} (f : Nat → Nat → α) (g a : Nat) (v : α) (b : Nat) : z2 f g a v g b = if b = a then v else f g b := by simp [z2, va_up]
abbrev zF0 (i : Nat → Int32) (p : Nat → Option Nat) : List Value := [.int (i 0), .int (i 1), .int (i 2), .int (i 3)]
abbrev zF1 (i : Nat → Int32) (p : Nat → Option Nat) : List Value := [.int (i 100), .int (i 101), va_rf (p 102), .int (i 103), .int (i 104), .int (i 105)]
abbrev zF2 (i : Nat → Int32) (p : Nat → Option Nat) : List Value := [.int (i 200), .int (i 201), .int (i 202), .int (i 203), .int (i 204), .int (i 205), .int (i 206), va_rf (p 207), .int (i 208), .int (i 209), va_rf (p 210), va_rf (p 211), .int (i 212), .int (i 213)]
abbrev zF3 (i : Nat → Int32) (p : Nat → Option Nat) : List Value := [va_rf (p 300), .int (i 301), .int (i 302), .int (i 303)]
abbrev zF4 (i : Nat → Int32) (p : Nat → Option Nat) : List Value := [.int (i 400), .int (i 401)]
abbrev zF5 (i : Nat → Int32) (p : Nat → Option Nat) : List Value := [va_rf (p 500), va_rf (p 501), va_rf (p 502), .int (i 503), .int (i 504), .int (i 505)]
abbrev zF6 (i : Nat → Int32) (p : Nat → Option Nat) : List Value := [.int (i 600), .int (i 601), va_rf (p 602), va_rf (p 603), va_rf (p 604), va_rf (p 605), va_rf (p 606), va_rf (p 607), va_rf (p 608), va_rf (p 609), va_rf (p 610), va_rf (p 611), va_rf (p 612), va_rf (p 613), va_rf (p 614), va_rf (p 615), va_rf (p 616), va_rf (p 617), va_rf (p 618), va_rf (p 619), va_rf (p 620), va_rf (p 621), .int (i 622), va_rf (p 623), va_rf (p 624), va_rf (p 625), va_rf (p 626), .int (i 627)]
/-- what an address holds, by its kind -/
def zE0 (cy : Nat → ClassId) (k : Nat) (i : Nat → Int32) (p : Nat → Option Nat) (n : Nat) (r : Nat → Int32) (q : Nat → Option Nat) (j : Nat → Int64) : va_E := match k with
  | 1 => .inr (0, zF0 i p)
  | 2 => .inr (1, zF1 i p)
  | 3 => .inr (2, zF2 i p)
  | 4 => .inr (3, zF3 i p)
  | 5 => .inr (4, zF4 i p)
  | 6 => .inr (5, zF5 i p)
  | 7 => .inr (6, zF6 i p)
  | 8 => .inl (cy 0, n, .inl r)
  | 9 => .inl (cy 1, n, .inl r)
  | 10 => .inl (cy 2, n, .inr (.inr (.inr (.inr q))))
  | 11 => .inl (cy 3, n, .inr (.inr (.inr (.inr q))))
  | 12 => .inl (cy 4, n, .inr (.inr (.inr (.inr q))))
  | 13 => .inl (cy 5, n, .inr (.inr (.inr (.inr q))))
  | 14 => .inl (cy 6, n, .inr (.inl j))
  | _ => .inl (cy 0, n, .inl r)
def zE (cy : Nat → ClassId) (w : zW) (a : Nat) : va_E := zE0 cy (zK w a) (fun g => zI w g a) (fun g => zP w g a) (zN w a) (zR w a) (zQ w a) (zJ w a)
def zTy (cy : Nat → ClassId) : List (ClassId × FieldType) := [(cy 0, .int), (cy 1, .boolean), (cy 2, .object "ParoleCards$Offence"), (cy 3, .object "ParoleCards$Order"), (cy 4, .object "ParoleCards$Person"), (cy 5, .object "ParoleCards$ToolKind"), (cy 6, .long)]
def zKn (D : va_G) (cy : Nat → ClassId) (U : State) : Prop := va_K D vwCl (zTy cy) U
/-- the heap H holds the world w, all of it from base on -/
def zH (D : va_G) (cy : Nat → ClassId) (base : Nat) (w : zW) (H : Heap) : Prop := ∀ a : Nat, zK w a ≠ 0 → base ≤ a ∧ va_at D vwCl (a, zE cy w a) H
/-- the two statics of Throwable, and the texts of the exceptions -/
def zS (base : Nat) (U : State) (H : Heap) : Prop := vx_Zq Bundle.tN "UNASSIGNED_STACK" Bundle.steD (fun q => base ≤ q) U H ∧ vx_Zq Bundle.tN "SUPPRESSED_SENTINEL" Bundle.listD (fun q => base ≤ q) U H
def zTexts : List (String × Nat × String) := [(RX5, 229, "an argument is out of range"), (RX5, 38, "the house is full"), (RX5, 213, "no such person"), (RX5, 225, "no such skill"), (RX5, 232, "the person is released"), (RX2, 75, "the person has no room for another paper"), (RX5, 219, "no such offence"), (RX5, 82, "the offence was appealed"), (RX5, 223, "no such kind of tool"), (RX5, 107, "more tools are counted out"), (RX5, 115, "there is no room for another order"), (RX5, 221, "no such order"), (RX5, 128, "the person is on an order"), (RX5, 137, "the person has not the skill"), (RX5, 146, "the order takes nobody now"), (RX5, 155, "the person is on no order"), (RX5, 178, "no such account"), (RX5, 181, "the account has less"), (RX5, 187, "it would be more than the limit")]
def zTx (U : State) : Prop := ∀ q ∈ zTexts, ∃ a : Nat, vk_R q.1 q.2.1 q.2.2 a U
abbrev zIse : String := "java/lang/IllegalStateException"
abbrev zIae : String := "java/lang/IllegalArgumentException"
abbrev zIob : String := "java/lang/IndexOutOfBoundsException"
abbrev zUp : List String := ["java/lang/RuntimeException", "java/lang/Exception"]
/-- the words of the throws that the tables tell, but not for good -/
def zFace : List Cond := (vx_atS RX5 40 zIse zUp ++ vx_atS RX5 231 zIae zUp ++ vx_atS RX5 180 zIob zUp ++ vx_atS RX2 77 zIse zUp).filter (fun w => !goodWord w)
def zFc (U : State) : Prop := ∀ w ∈ zFace, w.before #[] U = true
def zAo (U : State) : Prop := va_AO "ParoleCards$Offence" U ∧ va_AO "ParoleCards$Order" U ∧ va_AO "ParoleCards$Person" U ∧ va_AO "ParoleCards$ToolKind" U
def zNc (U : State) : Prop := va_Nc zIse zIob U ∧ va_Nc zIse zIae U ∧ va_Nc zIae zIob U
/-- what a method needs of its start beside the world -/
def zA (D : va_G) (cy : Nat → ClassId) (base : Nat) (U : State) : Prop := base ≤ U.heap.size ∧ zKn D cy U ∧ zS base U U.heap ∧ zTx U ∧ zFc U ∧ zAo U ∧ zNc U
theorem zFace_ok : zFace.all (fun w => w.onTables && w.keepsFace) = true := by decide +kernel
theorem zFc_warm {s U : State} (hW : s.WarmedH U.vm) (h : zFc s) : zFc U := by
  intro w hw
  have h1 := List.all_eq_true.mp zFace_ok w hw
  rw [Bool.and_eq_true] at h1
  have h2 : w.before #[] (s.setVm U.vm) = true := Cond.before_shiftedFace (State.Shifted.of_warmed hW) w h1.2 (h w hw)
  exact va_tabs (u := s.setVm U.vm) h1.1 rfl h2
theorem zFc_same {u U : State} (hv : u.vm = U.vm) (h : zFc u) : zFc U := by
  intro w hw
  have h1 := List.all_eq_true.mp zFace_ok w hw
  rw [Bool.and_eq_true] at h1
  exact va_tabs h1.1 hv (h w hw)
theorem zA_same {D : va_G} {cy : Nat → ClassId} {base : Nat} {u U : State} (hv : u.vm = U.vm) (hh : u.heap = U.heap) (h : zA D cy base u) : zA D cy base U := by
  obtain ⟨h1, h2, h3, h4, h5, h6, h7⟩ := h
  have ha : u.vm.Alike U.vm := by rw [hv]; exact Vm.Alike.refl _
  refine ⟨by rw [← hh]; exact h1, va_K.moved ha h2, ?_, ?_, zFc_same hv h5, ?_, ?_⟩
  · rw [← hh]; exact ⟨vx_Zq.moved ha h3.1, vx_Zq.moved ha h3.2⟩
  · intro q hq; obtain ⟨a, ha⟩ := h4 q hq; exact ⟨a, vk_R.same hv.symm ha⟩
  · exact ⟨va_AO.moved ha h6.1, va_AO.moved ha h6.2.1, va_AO.moved ha h6.2.2.1, va_AO.moved ha h6.2.2.2⟩
  · exact ⟨va_Nc.moved ha h7.1, va_Nc.moved ha h7.2.1, va_Nc.moved ha h7.2.2⟩
theorem zA_go {D : va_G} {cy : Nat → ClassId} {base : Nat} {s U : State} {H : Heap} {locs : List Loc} (hS : va_S (fun q : Nat => base ≤ q) s.heap H locs) (hU : U.heap = H) (hW : s.WarmedH U.vm) (h : zA D cy base s) : zA D cy base U := by
  obtain ⟨h1, h2, h3, h4, h5, h6, h7⟩ := h
  have ha : s.vm.Alike U.vm := hW.alike
  refine ⟨by rw [hU]; exact Nat.le_trans h1 hS.1, va_K.moved ha h2, ?_, ?_, zFc_warm hW h5, ?_, ?_⟩
  · rw [hU]; exact ⟨(vx_Zq.moved ha h3.1).kept (fun a h8 h9 => hS.2.1 a h8 h9), (vx_Zq.moved ha h3.2).kept (fun a h8 h9 => hS.2.1 a h8 h9)⟩
  · intro q hq; obtain ⟨a, ha⟩ := h4 q hq; exact ⟨a, vk_R.warm hW ha⟩
  · exact ⟨va_AO.moved ha h6.1, va_AO.moved ha h6.2.1, va_AO.moved ha h6.2.2.1, va_AO.moved ha h6.2.2.2⟩
  · exact ⟨va_Nc.moved ha h7.1, va_Nc.moved ha h7.2.1, va_Nc.moved ha h7.2.2⟩
/-! contracts: start, ends -/
/-- a method's start: the arguments, what it needs, its world u (of a kind S, held by HB) -/
def zPc {S : Type} (D : va_G) (cy : Nat → ClassId) (base : Nat) (HB : S → Heap → Prop) (As : List Value) (u : S) : Array Value → State → Prop := va_Pc As (fun U => zA D cy base U ∧ HB u U.heap)
def zQi {S : Type} (base : Nat) (HB : S → Heap → Prop) (post : Int32 → S → Prop) : Array Value → State → Outcome → State → Prop := va_Qi post (fun u t => HB u t.heap) (fun q => base ≤ q)
def zQv {S : Type} (base : Nat) (HB : S → Heap → Prop) (post : S → Prop) : Array Value → State → Outcome → State → Prop := va_Qv post (fun u t => HB u t.heap) (fun q => base ≤ q)
def zQr {S : Type} (base : Nat) (HB : S → Heap → Prop) (post : Nat → S → Prop) : Array Value → State → Outcome → State → Prop := fun _ st oc t => (∃ (r : Nat) (u : S), oc = .returned (some (.ref r)) ∧ post r u ∧ HB u t.heap) ∧ va_F (fun q => base ≤ q) st t
/-- a throw of one of the classes px, the world as it was -/
def zXC {S : Type} (base : Nat) (HB : S → Heap → Prop) (px : String → S → Prop) : String → State → State → Prop := fun E st t => (∃ u : S, px E u ∧ HB u t.heap) ∧ va_F (fun q => base ≤ q) st t
theorem zPc_blind {S : Type} {D : va_G} {cy : Nat → ClassId} {base : Nat} {HB : S → Heap → Prop} {As : List Value} {u : S} : FrameBlind (zPc D cy base HB As u) := by
  intro a U g mk h
  obtain ⟨h1, h2, h3⟩ := h
  exact ⟨h1, zA_same (u := U) (U := U.calling g mk a) rfl rfl h2, h3⟩
section ZROWS
variable {p : Program} {l : Launch} {e : Env} {R : Room} {s : State} {m : MethodId} {args : Array Value} {below : List Frame} {meth : Method} {c : Code} {H : Heap} {locs : List Loc} {cells slots : Nat} {Q : State → Prop} {cc : ByteArray} {pc : Nat} {ls : Array Slot} {rest : List Value} {D : va_G} {cy : Nat → ClassId} {base : Nat} {w : zW} {H0 : Heap}
theorem z_preS {S : Type} {HB : S → Heap → Prop} {As : List Value} {u : S} (hA : zA D cy base s) (hS : va_S (fun q : Nat => base ≤ q) s.heap H locs) (hH : HB u H) : PreS s H (zPc D cy base HB As u) As :=
  ⟨zPc_blind, fun U hU hW => ⟨rfl, zA_go hS hU hW hA, by rw [hU]; exact hH⟩⟩
theorem z_preV {S : Type} {HB : S → Heap → Prop} {As : List Value} {b : Nat} {C : String} {u : S} (hA : zA D cy base s) (hS : va_S (fun q : Nat => base ≤ q) s.heap H locs) (hH : HB u H) (hrc : ∃ cellB : Cell, H[b]? = some cellB ∧ cellB.vm.isStatics = false ∧ s.vm.findClass C = some cellB.cls) : PreV s H C b (zPc D cy base HB (.ref b :: As) u) As :=
  ⟨zPc_blind, hrc, fun U hU hW => ⟨rfl, zA_go hS hU hW hA, by rw [hU]; exact hH⟩⟩
theorem zH_one (hH : zH D cy base w H) {a : Nat} (h0 : zK w a ≠ 0) {x : va_E} (he : zE cy w a = x) : va_P D vwCl [(a, x)] H := by
  intro k q hk
  match k, hk with
  | 0, hk => cases hk; rw [← he]; exact (hH a h0).2
  | k + 1, hk => simp at hk
/-- the receiver's class -/
theorem z_recv (hA : zA D cy base s) (hH : zH D cy base w H) {a ci : Nat} (h0 : zK w a ≠ 0) {fs : List Value} (he : zE cy w a = .inr (ci, fs)) {q : vw_C} (hc : vwCl[ci]? = some q) : ∃ cell : Cell, H[a]? = some cell ∧ cell.vm.isStatics = false ∧ s.vm.findClass q.1 = some cell.cls :=
  va_recv (ws := [(a, .inr (ci, fs))]) (q0 := 0) hA.2.1 (zH_one hH h0 he) hc rfl
theorem z_get (hx : p.tables.exec = Jvm.exec) (hb : c.code = cc) {own ref C : String} {T : u_T} {N ci index : Nat} {Ts : List Cond} (hts : ∀ w ∈ Ts, w.before args s = true) (hin : ∀ w ∈ u_ws C T N, w ∈ Ts) (hown : s.vm.findClass own = some m.cls) (hA : zA D cy base s) (hH : zH D cy base w H) {a : Nat} (h0 : zK w a ≠ 0) {fs : List Value} (he : zE cy w a = .inr (ci, fs)) (hc : vwCl[ci]? = some (C, T, N)) (k : Nat) (hk : k < N) (hlink : (Cond.fieldLink own index ref (T k).2.1 (T k).2.2.1).before args s = true) (hsame : ∀ x, s.fieldFound? (T k).1 (T k).2.1 (T k).2.2.1 = some x → s.fieldFound? ref (T k).2.1 (T k).2.2.1 = some x) {v : Value} (hv : fs[k]? = some v) (hdg : decode cc pc = .ok (.getfield index, 3))
    (kk : W p l e R s m args below meth c H locs cells slots Q (F0 m (pc + 3) ls (v :: rest))) : W p l e R s m args below meth c H locs cells slots Q (F0 m pc ls (.ref a :: rest)) :=
  va_get (D := D) (cl := vwCl) (tys := zTy cy) (ws := [(a, .inr (ci, fs))]) hx hb hts hin hown hA.2.1 (zH_one hH h0 he) 0 rfl hc k hk hlink hsame hv hdg kk
theorem zH_set {w' : zW} {a : Nat} {H1 : Heap} (hH : zH D cy base w H) (h0 : zK w a ≠ 0) (he : va_at D vwCl (a, zE cy w' a) H1) (oq : ∀ q : Nat, q ≠ a → H1[q]? = H[q]?) (ho : ∀ b, b ≠ a → zE cy w' b = zE cy w b) (hk : ∀ b, zK w' b = zK w b) : zH D cy base w' H1 := by
  intro b hb
  rw [hk b] at hb
  by_cases h : b = a
  · subst h; exact ⟨(hH b h0).1, he⟩
  · exact ⟨(hH b hb).1, by rw [ho b h]; exact (hH b hb).2.kept (oq b h)⟩
theorem z_S {a : Nat} {H1 : Heap} {j : Nat} (hS : va_S (fun q : Nat => base ≤ q) H0 H locs) (hs : H1.size = H.size) (oq : ∀ q : Nat, q ≠ a → H1[q]? = H[q]?) (ha : base ≤ a) : va_S (fun q : Nat => base ≤ q) H0 H1 (locs ++ [⟨a, j⟩]) := hS.put hs oq ha
theorem zsI_oth (w : zW) (g a : Nat) (v : Int32) : ∀ b, b ≠ a → zE cy (zsI w g a v) b = zE cy w b := by
  intro b hb
  have h : (fun g' => zI (zsI w g a v) g' b) = (fun g' => zI w g' b) := funext fun g' => z2_ne2 _ _ _ _ hb
  unfold zE
  rw [h]
  rfl
theorem zsP_oth (w : zW) (g a : Nat) (v : Option Nat) : ∀ b, b ≠ a → zE cy (zsP w g a v) b = zE cy w b := by
  intro b hb
  have h : (fun g' => zP (zsP w g a v) g' b) = (fun g' => zP w g' b) := funext fun g' => z2_ne2 _ _ _ _ hb
  unfold zE
  rw [h]
  rfl
theorem zsR_oth (w : zW) (a i : Nat) (v : Int32) : ∀ b, b ≠ a → zE cy (zsR w a i v) b = zE cy w b := by
  intro b hb
  have h : zR (zsR w a i v) b = zR w b := z2_ne1 _ _ _ hb
  unfold zE
  rw [h]
  rfl
theorem zsQ_oth (w : zW) (a i : Nat) (v : Option Nat) : ∀ b, b ≠ a → zE cy (zsQ w a i v) b = zE cy w b := by
  intro b hb
  have h : zQ (zsQ w a i v) b = zQ w b := z2_ne1 _ _ _ hb
  unfold zE
  rw [h]
  rfl
theorem zsJ_oth (w : zW) (a i : Nat) (v : Int64) : ∀ b, b ≠ a → zE cy (zsJ w a i v) b = zE cy w b := by
  intro b hb
  have h : zJ (zsJ w a i v) b = zJ w b := z2_ne1 _ _ _ hb
  unfold zE
  rw [h]
  rfl
theorem z_put (hx : p.tables.exec = Jvm.exec) (hb : c.code = cc) {own ref C : String} {T : u_T} {N ci index : Nat} {Ts : List Cond} (hts : ∀ w ∈ Ts, w.before args s = true) (hin : ∀ w ∈ u_ws C T N, w ∈ Ts) (ty0 : Nat → FieldType) (hty : ∀ k, k < N → parseFieldDescriptor (T k).2.2.1 = some (ty0 k)) (hnm : ∀ a, a < N → ∀ b, b < N → a ≠ b → (T a).2.1 ≠ (T b).2.1) (hown : s.vm.findClass own = some m.cls) (hA : zA D cy base s) (hH : zH D cy base w H) (hS0 : va_S (fun q : Nat => base ≤ q) H0 H locs) {a : Nat} (h0 : zK w a ≠ 0) {fs : List Value} (he : zE cy w a = .inr (ci, fs)) (hc : vwCl[ci]? = some (C, T, N)) (k : Nat) (hk : k < N) (hlink : (Cond.fieldLink own index ref (T k).2.1 (T k).2.2.1).before args s = true) (hsame : ∀ x, s.fieldFound? (T k).1 (T k).2.1 (T k).2.2.1 = some x → s.fieldFound? ref (T k).2.1 (T k).2.2.1 = some x) (hfin : (T k).2.2.2 = false) {ty : FieldType} {v : Value} (hd : parseFieldDescriptor (T k).2.2.1 = some ty) (hn : narrow ty v = v) (hfit : fits ty v = true) (hl : k < fs.length)
    {w' : zW} (he' : zE cy w' a = .inr (ci, fs.set k v)) (ho : ∀ b, b ≠ a → zE cy w' b = zE cy w b) (hk' : ∀ b, zK w' b = zK w b) (hdg : decode cc pc = .ok (.putfield index, 3))
    (kk : ∀ (H1 : Heap) (locs1 : List Loc), zH D cy base w' H1 → va_S (fun q : Nat => base ≤ q) H0 H1 locs1 → W p l e R s m args below meth c H1 locs1 cells slots Q (F0 m (pc + 3) ls rest)) : W p l e R s m args below meth c H locs cells slots Q (F0 m pc ls (v :: .ref a :: rest)) := by
  have hK := hA.2.1
  have hP := zH_one hH h0 he
  have hap := va_apart (own := own) hts hin ty0 hty hnm hK hc
  obtain ⟨r, h1, cell, q1, q2, q3, q4⟩ := hP 0 _ rfl
  have hr : r = (C, T, N) := Option.some.inj (h1.symm.trans hc)
  subst hr
  obtain ⟨hSl, hfc, kC, hkC, hkind⟩ := hK.1 ci _ hc
  obtain ⟨cf, kf, fi, f, hi, hsl⟩ := hSl k hk
  have hlay := hts _ (hin _ (u_in_lay hk))
  unfold u_lay at hlay
  rw [if_neg (by rw [hfin]; decide)] at hlay
  have hst := (u_facts hfc hkC (u_lays hts hin hk) hi).1
  have h6 := u_store hfc hkC hkind hlay hi hd hn hfit
  refine W.putK hx hb (f := f) ⟨hown, hlink, ⟨_, _, _, hsame _ hi⟩, hst⟩ (by rw [q2]; exact h6) q1 q3 (by rw [hsl]; exact k2_hasslot (q4 k hk)) rfl rfl hdg fun H' e1 e2 e3 => ?_
  rw [hsl] at e1 ⊢
  refine kk H' _ (zH_set hH h0 ?_ e3 ho hk') (hS0.put e2 e3 (hH a h0).1)
  rw [he']
  exact ⟨_, hc, t_OB.to (V := updV (vp_V fs) k v) ⟨_, e1, q2, q3, t_set q4 hap hk v⟩ (fun j _ => vp_updV_set hl v j)⟩
theorem z_putF (hx : p.tables.exec = Jvm.exec) (hb : c.code = cc) {own ref C : String} {T : u_T} {N ci index : Nat} {Ts : List Cond} (hts : ∀ w ∈ Ts, w.before args s = true) (hin : ∀ w ∈ u_ws C T N, w ∈ Ts) (ty0 : Nat → FieldType) (hty : ∀ k, k < N → parseFieldDescriptor (T k).2.2.1 = some (ty0 k)) (hnm : ∀ a, a < N → ∀ b, b < N → a ≠ b → (T a).2.1 ≠ (T b).2.1) (hown : s.vm.findClass own = some m.cls) (hA : zA D cy base s) (hH : zH D cy base w H) (hS0 : va_S (fun q : Nat => base ≤ q) H0 H locs) {a : Nat} (h0 : zK w a ≠ 0) {fs : List Value} (he : zE cy w a = .inr (ci, fs)) (hc : vwCl[ci]? = some (C, T, N)) (k : Nat) (hk : k < N) (hlink : (Cond.fieldLink own index ref (T k).2.1 (T k).2.2.1).before args s = true) (hsame : ∀ x, s.fieldFound? (T k).1 (T k).2.1 (T k).2.2.1 = some x → s.fieldFound? ref (T k).2.1 (T k).2.2.1 = some x) (hfin : (T k).2.2.2 = true) (hin2 : meth.name = "<init>") (hdecl : (T k).1 = own) {ty : FieldType} {v : Value} (hd : parseFieldDescriptor (T k).2.2.1 = some ty) (hn : narrow ty v = v) (hfit : fits ty v = true) (hl : k < fs.length)
    {w' : zW} (he' : zE cy w' a = .inr (ci, fs.set k v)) (ho : ∀ b, b ≠ a → zE cy w' b = zE cy w b) (hk' : ∀ b, zK w' b = zK w b) (hdg : decode cc pc = .ok (.putfield index, 3))
    (kk : ∀ (H1 : Heap) (locs1 : List Loc), zH D cy base w' H1 → va_S (fun q : Nat => base ≤ q) H0 H1 locs1 → W p l e R s m args below meth c H1 locs1 cells slots Q (F0 m (pc + 3) ls rest)) : W p l e R s m args below meth c H locs cells slots Q (F0 m pc ls (v :: .ref a :: rest)) := by
  have hK := hA.2.1
  have hP := zH_one hH h0 he
  have hap := va_apart (own := own) hts hin ty0 hty hnm hK hc
  obtain ⟨r, h1, cell, q1, q2, q3, q4⟩ := hP 0 _ rfl
  have hr : r = (C, T, N) := Option.some.inj (h1.symm.trans hc)
  subst hr
  obtain ⟨hSl, hfc, kC, hkC, hkind⟩ := hK.1 ci _ hc
  obtain ⟨cf, kf, fi, f, hi, hsl⟩ := hSl k hk
  have hlay := hts _ (hin _ (u_in_lay hk))
  unfold u_lay at hlay
  rw [if_pos hfin] at hlay
  have hst := (u_facts hfc hkC (u_lays hts hin hk) hi).1
  have hcf : m.cls = cf := by
    obtain ⟨_, _, c', _, _, _, -, -, hf', -, -, -, hown2, -⟩ := Cond.laysFinal_spec hlay
    have e1 : c' = cf := by have := hi.symm.trans hf'; simp at this; exact this.1.symm
    rw [hdecl] at hown2
    rw [← e1]; exact Option.some.inj (hown.symm.trans hown2)
  have h6 := u_fits hfc hkC hkind (Or.inr hlay) hi hd hn hfit
  refine W.putFinK hx hb hown hlink (hsame _ hi) hst hcf hin2 (by rw [q2]; exact h6) q1 q3 (by rw [hsl]; exact k2_hasslot (q4 k hk)) rfl rfl hdg fun H' e1 e2 e3 => ?_
  rw [hsl] at e1 ⊢
  refine kk H' _ (zH_set hH h0 ?_ e3 ho hk') (hS0.put e2 e3 (hH a h0).1)
  rw [he']
  exact ⟨_, hc, t_OB.to (V := updV (vp_V fs) k v) ⟨_, e1, q2, q3, t_set q4 hap hk v⟩ (fun j _ => vp_updV_set hl v j)⟩
/-! arrays -/
theorem z_alen (hx : p.tables.exec = Jvm.exec) (hb : c.code = cc) (hA : zA D cy base s) (hH : zH D cy base w H) {a : Nat} (h0 : zK w a ≠ 0) {cA : ClassId} {x : vp_A} (he : zE cy w a = .inl (cA, x)) (t0 : Nat) {ty : FieldType} (ht : (zTy cy)[t0]? = some (cA, ty)) {v : Int32} (hv : Int32.ofNat x.1 = v) (hdg : decode cc pc = .ok (.arraylength, 1))
    (kk : W p l e R s m args below meth c H locs cells slots Q (F0 m (pc + 1) ls (.int v :: rest))) : W p l e R s m args below meth c H locs cells slots Q (F0 m pc ls (.ref a :: rest)) :=
  va_alen (D := D) (cl := vwCl) (tys := zTy cy) (ws := [(a, .inl (cA, x))]) hx hb hA.2.1 (zH_one hH h0 he) 0 t0 rfl ht hv hdg kk
theorem z_iald (hx : p.tables.exec = Jvm.exec) (hb : c.code = cc) (hA : zA D cy base s) (hH : zH D cy base w H) {a : Nat} (h0 : zK w a ≠ 0) {n : Nat} {f : Nat → Int32} (he : zE cy w a = .inl (cy 0, n, .inl f)) {i : Int32} (j : Nat) (hi : i = nI j) (hj : j < n) (hn : n < 2 ^ 31) (hdg : decode cc pc = .ok (.iaload, 1))
    (kk : W p l e R s m args below meth c H locs cells slots Q (F0 m (pc + 1) ls (.int (f j) :: rest))) : W p l e R s m args below meth c H locs cells slots Q (F0 m pc ls (.int i :: .ref a :: rest)) := by
  subst hi
  refine va_iald (D := D) (cl := vwCl) (tys := zTy cy) (ws := [(a, .inl (cy 0, n, .inl f))]) hx hb hA.2.1 (zH_one hH h0 he) 0 0 rfl rfl (vp_in_nI hj hn) hdg ?_
  rw [nI_clamp (Nat.lt_trans hj hn)]
  exact kk
theorem z_zald (hx : p.tables.exec = Jvm.exec) (hb : c.code = cc) (hA : zA D cy base s) (hH : zH D cy base w H) {a : Nat} (h0 : zK w a ≠ 0) {n : Nat} {f : Nat → Int32} (he : zE cy w a = .inl (cy 1, n, .inl f)) {i : Int32} (j : Nat) (hi : i = nI j) (hj : j < n) (hn : n < 2 ^ 31) (hdg : decode cc pc = .ok (.baload, 1))
    (kk : W p l e R s m args below meth c H locs cells slots Q (F0 m (pc + 1) ls (.int (f j) :: rest))) : W p l e R s m args below meth c H locs cells slots Q (F0 m pc ls (.int i :: .ref a :: rest)) := by
  subst hi
  refine va_zald (D := D) (cl := vwCl) (tys := zTy cy) (ws := [(a, .inl (cy 1, n, .inl f))]) hx hb hA.2.1 (zH_one hH h0 he) 0 1 rfl rfl (vp_in_nI hj hn) hdg ?_
  rw [nI_clamp (Nat.lt_trans hj hn)]
  exact kk
theorem z_aald (hx : p.tables.exec = Jvm.exec) (hb : c.code = cc) (hA : zA D cy base s) (hH : zH D cy base w H) {a : Nat} (h0 : zK w a ≠ 0) {cA : ClassId} {C : String} {n : Nat} {f : Nat → Option Nat} (he : zE cy w a = .inl (cA, n, .inr (.inr (.inr (.inr f))))) (t0 : Nat) (ht : (zTy cy)[t0]? = some (cA, .object C)) {i : Int32} (j : Nat) (hi : i = nI j) (hj : j < n) (hn : n < 2 ^ 31) {v : Option Nat} (hv : f j = v) (hdg : decode cc pc = .ok (.aaload, 1))
    (kk : W p l e R s m args below meth c H locs cells slots Q (F0 m (pc + 1) ls (va_rf v :: rest))) : W p l e R s m args below meth c H locs cells slots Q (F0 m pc ls (.int i :: .ref a :: rest)) := by
  subst hi
  subst hv
  refine va_aldq (D := D) (cl := vwCl) (tys := zTy cy) (ws := [(a, .inl (cA, n, .inr (.inr (.inr (.inr f)))))]) hx hb hA.2.1 (zH_one hH h0 he) 0 t0 rfl ht (vp_in_nI hj hn) hdg ?_
  rw [nI_clamp (Nat.lt_trans hj hn)]
  exact kk
theorem z_jald (hx : p.tables.exec = Jvm.exec) (hb : c.code = cc) (hA : zA D cy base s) (hH : zH D cy base w H) {a : Nat} (h0 : zK w a ≠ 0) {n : Nat} {f : Nat → Int64} (he : zE cy w a = .inl (cy 6, n, .inr (.inl f))) {i : Int32} (j : Nat) (hi : i = nI j) (hj : j < n) (hn : n < 2 ^ 31) (hdg : decode cc pc = .ok (.laload, 1))
    (kk : W p l e R s m args below meth c H locs cells slots Q (F0 m (pc + 1) ls (.long (f j) :: rest))) : W p l e R s m args below meth c H locs cells slots Q (F0 m pc ls (.int i :: .ref a :: rest)) := by
  subst hi
  refine va_lald (D := D) (cl := vwCl) (tys := zTy cy) (ws := [(a, .inl (cy 6, n, .inr (.inl f)))]) hx hb hA.2.1 (zH_one hH h0 he) 0 6 rfl rfl (vp_in_nI hj hn) hdg ?_
  rw [nI_clamp (Nat.lt_trans hj hn)]
  exact kk
theorem z_iast (hx : p.tables.exec = Jvm.exec) (hb : c.code = cc) (hA : zA D cy base s) (hH : zH D cy base w H) (hS : va_S (fun q : Nat => base ≤ q) H0 H locs) {a : Nat} (h0 : zK w a ≠ 0) {n : Nat} {f : Nat → Int32} (he : zE cy w a = .inl (cy 0, n, .inl f)) {i x : Int32} (j : Nat) (hi : i = nI j) (hj : j < n) (hn : n < 2 ^ 31) {w' : zW} (he' : zE cy w' a = .inl (cy 0, n, .inl (va_up f j x))) (ho : ∀ b, b ≠ a → zE cy w' b = zE cy w b) (hk' : ∀ b, zK w' b = zK w b) (hdg : decode cc pc = .ok (.iastore, 1))
    (kk : ∀ (H1 : Heap) (locs1 : List Loc), zH D cy base w' H1 → va_S (fun q : Nat => base ≤ q) H0 H1 locs1 → W p l e R s m args below meth c H1 locs1 cells slots Q (F0 m (pc + 1) ls rest)) : W p l e R s m args below meth c H locs cells slots Q (F0 m pc ls (.int x :: .int i :: .ref a :: rest)) := by
  subst hi
  have hP := zH_one hH h0 he
  refine W.iast hx hb (hP 0 _ rfl) ((hA.2.1.2 0 _ rfl).1 n (fun j => .int (f j))) (fun q => by cases q) (by show ¬ (nI j < 0 ∨ (arrV _ _ _).slots.size ≤ _); rw [arrV_size]; exact vp_in_nI hj hn) rfl rfl hdg fun H1 e1 e2 e3 => ?_
  refine kk H1 _ (zH_set hH h0 ?_ e3 ho hk') (hS.put e2 e3 (hH a h0).1)
  rw [he']
  show H1[a]? = some (vp_cell _ _)
  rw [e1, nI_clamp (Nat.lt_trans hj hn)]
  rw [vp_cell_i, vp_cell_i, arrV_store]
  congr 2
  funext q
  by_cases hq : q = j
  · subst hq; simp [updV, va_up]
  · simp [updV, va_up, hq]
theorem z_zast (hx : p.tables.exec = Jvm.exec) (hb : c.code = cc) (hA : zA D cy base s) (hH : zH D cy base w H) (hS : va_S (fun q : Nat => base ≤ q) H0 H locs) {a : Nat} (h0 : zK w a ≠ 0) {n : Nat} {f : Nat → Int32} (he : zE cy w a = .inl (cy 1, n, .inl f)) {i x : Int32} (j : Nat) (hi : i = nI j) (hj : j < n) (hn : n < 2 ^ 31) (hx1 : vp_nar .boolean x = x) {w' : zW} (he' : zE cy w' a = .inl (cy 1, n, .inl (va_up f j x))) (ho : ∀ b, b ≠ a → zE cy w' b = zE cy w b) (hk' : ∀ b, zK w' b = zK w b) (hdg : decode cc pc = .ok (.bastore, 1))
    (kk : ∀ (H1 : Heap) (locs1 : List Loc), zH D cy base w' H1 → va_S (fun q : Nat => base ≤ q) H0 H1 locs1 → W p l e R s m args below meth c H1 locs1 cells slots Q (F0 m (pc + 1) ls rest)) : W p l e R s m args below meth c H locs cells slots Q (F0 m pc ls (.int x :: .int i :: .ref a :: rest)) := by
  subst hi
  have hP := zH_one hH h0 he
  refine W.zast hx hb (hP 0 _ rfl) ((hA.2.1.2 1 _ rfl).1 n (fun j => .int (f j))) (fun q => by cases q) (by show ¬ (nI j < 0 ∨ (arrV _ _ _).slots.size ≤ _); rw [arrV_size]; exact vp_in_nI hj hn) rfl rfl hdg fun H1 e1 e2 e3 => ?_
  refine kk H1 _ (zH_set hH h0 ?_ e3 ho hk') (hS.put e2 e3 (hH a h0).1)
  rw [he']
  show H1[a]? = some (vp_cell _ _)
  rw [e1, nI_clamp (Nat.lt_trans hj hn)]
  rw [vp_cell_i, vp_cell_i, arrV_store]
  congr 2
  funext q
  by_cases hq : q = j
  · subst hq
    have h9 : narrow .boolean (.int x) = .int (vp_nar .boolean x) := by simp [vp_nar]; rfl
    simp [updV, va_up, h9, hx1]
  · simp [updV, va_up, hq]
theorem z_jast (hx : p.tables.exec = Jvm.exec) (hb : c.code = cc) (hA : zA D cy base s) (hH : zH D cy base w H) (hS : va_S (fun q : Nat => base ≤ q) H0 H locs) {a : Nat} (h0 : zK w a ≠ 0) {n : Nat} {f : Nat → Int64} (he : zE cy w a = .inl (cy 6, n, .inr (.inl f))) {i : Int32} {x : Int64} (j : Nat) (hi : i = nI j) (hj : j < n) (hn : n < 2 ^ 31) {w' : zW} (he' : zE cy w' a = .inl (cy 6, n, .inr (.inl (va_up f j x)))) (ho : ∀ b, b ≠ a → zE cy w' b = zE cy w b) (hk' : ∀ b, zK w' b = zK w b) (hdg : decode cc pc = .ok (.lastore, 1))
    (kk : ∀ (H1 : Heap) (locs1 : List Loc), zH D cy base w' H1 → va_S (fun q : Nat => base ≤ q) H0 H1 locs1 → W p l e R s m args below meth c H1 locs1 cells slots Q (F0 m (pc + 1) ls rest)) : W p l e R s m args below meth c H locs cells slots Q (F0 m pc ls (.long x :: .int i :: .ref a :: rest)) := by
  subst hi
  have hP := zH_one hH h0 he
  refine W.last hx hb (hP 0 _ rfl) ((hA.2.1.2 6 _ rfl).1 n (fun j => .long (f j))) (fun q => by cases q) (by show ¬ (nI j < 0 ∨ (arrV _ _ _).slots.size ≤ _); rw [arrV_size]; exact vp_in_nI hj hn) rfl rfl hdg fun H1 e1 e2 e3 => ?_
  refine kk H1 _ (zH_set hH h0 ?_ e3 ho hk') (hS.put e2 e3 (hH a h0).1)
  rw [he']
  show H1[a]? = some (vp_cell _ _)
  rw [e1, nI_clamp (Nat.lt_trans hj hn)]
  rw [vp_cell_l, vp_cell_l, arrV_store]
  congr 2
  funext q
  by_cases hq : q = j
  · subst hq; simp [updV, va_up]
  · simp [updV, va_up, hq]
theorem z_aast (hx : p.tables.exec = Jvm.exec) (hb : c.code = cc) (hA : zA D cy base s) (hH : zH D cy base w H) (hS : va_S (fun q : Nat => base ≤ q) H0 H locs) {a : Nat} (h0 : zK w a ≠ 0) {cA : ClassId} {r : vw_C} {n v ci : Nat} {vs : List Value} {f : Nat → Option Nat} (he : zE cy w a = .inl (cA, n, .inr (.inr (.inr (.inr f))))) (t0 : Nat) (ht : (zTy cy)[t0]? = some (cA, .object r.1)) (hv0 : zK w v ≠ 0) (hv : zE cy w v = .inr (ci, vs)) (hc : vwCl[ci]? = some r) {i : Int32} (j : Nat) (hi : i = nI j) (hj : j < n) (hn : n < 2 ^ 31) {w' : zW} (he' : zE cy w' a = .inl (cA, n, .inr (.inr (.inr (.inr (va_up f j (some v))))))) (ho : ∀ b, b ≠ a → zE cy w' b = zE cy w b) (hk' : ∀ b, zK w' b = zK w b) (hdg : decode cc pc = .ok (.aastore, 1))
    (kk : ∀ (H1 : Heap) (locs1 : List Loc), zH D cy base w' H1 → va_S (fun q : Nat => base ≤ q) H0 H1 locs1 → W p l e R s m args below meth c H1 locs1 cells slots Q (F0 m (pc + 1) ls rest)) : W p l e R s m args below meth c H locs cells slots Q (F0 m pc ls (.ref v :: .int i :: .ref a :: rest)) := by
  subst hi
  have hP := zH_one hH h0 he
  obtain ⟨r', hr', cellV, g1, g2, g3, -⟩ := (zH_one hH hv0 hv) 0 _ rfl
  have hcls := (hA.2.1.1 ci r hc).2
  obtain ⟨kA, comp, k1, k2, k3, -⟩ := (hA.2.1.2 t0 _ ht).2
  have hcomp : comp = D.1 ci := Option.some.inj (k3.symm.trans hcls.1)
  subst hcomp
  obtain ⟨kC, hkC, -⟩ := hcls.2
  have hi9 := nI_clamp (Nat.lt_trans hj hn)
  refine W.aast hx hb (hP 0 _ rfl) (fun q h => by cases h) (fun h => by cases h) k1 k2 rfl hkC ⟨nI_pos (Nat.lt_trans hj hn), by show _ < (arrV _ _ _).slots.size; rw [arrV_size, hi9]; exact hj⟩ g1 (fun q h => by rw [g3] at h; cases h) (by rw [g2]; exact hkC) (by rw [g2]; exact va_assign hcls) rfl rfl hdg fun H1 e1 e2 e3 => ?_
  refine kk H1 _ (zH_set hH h0 ?_ e3 ho hk') (hS.put e2 e3 (hH a h0).1)
  rw [he']
  show H1[a]? = some (vp_cell _ _)
  rw [e1, hi9]
  rw [vp_cell_q, vp_cell_q, arrV_store]
  congr 2
  funext q
  by_cases hq : q = j
  · subst hq; simp [updV, va_up, va_rf]
  · simp [updV, va_up, hq]
/-! new things -/
theorem zNew_oth (w : zW) (q k n : Nat) : ∀ b, b ≠ q → zE cy (zNew w q k n) b = zE cy w b := by
  intro b hb
  unfold zE zNew zK zI zP zN zR zQ zJ
  simp [va_up, hb]
theorem zNew_K (w : zW) (q k n b : Nat) : zK (zNew w q k n) b = if b = q then k else zK w b := by simp [zNew, zK, va_up]
theorem zH_new {q k n : Nat} {H1 : Heap} (hH : zH D cy base w H) (hq : q = H.size) (hb : base ≤ q) (he : va_at D vwCl (q, zE cy (zNew w q k n) q) H1) (oq : ∀ x : Nat, x < q → H1[x]? = H[x]?) : zH D cy base (zNew w q k n) H1 ∧ zK w q = 0 := by
  have h9 : ∀ a, zK w a ≠ 0 → a < q := fun a ha => by rw [hq]; exact (hH a ha).2.lt
  refine ⟨fun b hb9 => ?_, ?_⟩
  · by_cases h : b = q
    · subst h; exact ⟨hb, he⟩
    · rw [zNew_K, if_neg h] at hb9
      exact ⟨(hH b hb9).1, by rw [zNew_oth w q k n b h]; exact (hH b hb9).2.kept (oq b (h9 b hb9))⟩
  · by_cases h : zK w q = 0
    · exact h
    · exact absurd (h9 q h) (Nat.lt_irrefl q)
theorem z_new (hx : p.tables.exec = Jvm.exec) (hb : c.code = cc) {own C : String} {T : u_T} {N ci index k : Nat} {Ts : List Cond} (hts : ∀ w ∈ Ts, w.before args s = true) (hin : ∀ w ∈ u_ws C T N, w ∈ Ts) (ty : Nat → FieldType) (hty : ∀ k, k < N → parseFieldDescriptor (T k).2.2.1 = some (ty k)) (hown : s.vm.findClass own = some m.cls) (hcl : (Cond.classLink own index C).before args s = true) (hinst : (Cond.instantiable C N).before args s = true) (hini : (Cond.initialized C).before args s = true)
    (hA : zA D cy base s) (hH : zH D cy base w H) (hS : va_S (fun q : Nat => base ≤ q) s.heap H locs) (hc : vwCl[ci]? = some (C, T, N)) {fs : List Value} (hfs : ∀ j, j < N → defaultValue (ty j) = vp_V fs j) (he : ∀ q, zE cy (zNew w q k 0) q = .inr (ci, fs)) (hcells : cells + 1 ≤ R.cells) (hslots : slots + N ≤ R.slots) (hdg : decode cc pc = .ok (.new index, 3))
    (kk : ∀ (q : Nat) (H1 : Heap), zK w q = 0 → zH D cy base (zNew w q k 0) H1 → va_S (fun q : Nat => base ≤ q) s.heap H1 locs →
      W p l e R s m args below meth c H1 locs (cells + 1) (slots + N) Q (F0 m (pc + 3) ls (.ref q :: rest))) : W p l e R s m args below meth c H locs cells slots Q (F0 m pc ls rest) := by
  have hKn := hA.2.1.1 ci _ hc
  have hbs : base ≤ H.size := Nat.le_trans hA.1 hS.1
  refine W.newcK hx hb hown hcl hinst hini rfl hdg hcells hslots hKn.2.1 rfl fun H1 kC hkC e1 z1 o1 => ?_
  obtain ⟨g1, g2⟩ := zH_new (k := k) (n := 0) (H1 := H1) hH rfl hbs (by rw [he]; exact ⟨_, hc, (u_born ty hts hin hKn hkC e1 hty).to hfs⟩) o1
  exact kk H.size H1 g2 g1 ⟨Nat.le_trans hS.1 (by omega), fun x h1 h2 => (o1 x (Nat.lt_of_lt_of_le h1 hS.1)).trans (hS.2.1 x h1 h2), hS.2.2⟩
theorem z_newa (hx : p.tables.exec = Jvm.exec) (hb : c.code = cc) {atype : ArrayType} (harr : (Cond.arrayClass (newarray.typeOf atype)).before args s = true) {ty : FieldType} (hty : newarray.typeOf atype = ty) (hA : zA D cy base s) (hH : zH D cy base w H) (hS : va_S (fun q : Nat => base ≤ q) s.heap H locs) {k : Nat}
    {n : Int32} {N' t0 : Nat} {a0 : vp_A} {cA : ClassId} (ht : (zTy cy)[t0]? = some (cA, ty)) (hra : va_RA s cA ty = (s.vm.findClass ("[" ++ ty.toString) = some cA)) (ha : vp_cell cA a0 = arrV cA N' (fun _ => defaultValue ty)) (he : ∀ q, zE cy (zNew w q k N') q = .inl (cA, a0)) (hn : ¬ n < 0) (hN : n.toNatClampNeg = N') (hbytes : N' * componentBytes ty ≤ 536870912) (hcells : cells + 1 ≤ R.cells) (hslots : slots + N' ≤ R.slots) (hdg : decode cc pc = .ok (.newarray atype, 2))
    (kk : ∀ (q : Nat) (H1 : Heap), zK w q = 0 → zH D cy base (zNew w q k N') H1 → va_S (fun q : Nat => base ≤ q) s.heap H1 locs →
      W p l e R s m args below meth c H1 locs (cells + 1) (slots + N') Q (F0 m (pc + 2) ls (.ref q :: rest))) : W p l e R s m args below meth c H locs cells slots Q (F0 m pc ls (.int n :: rest)) := by
  subst hty
  have hbs : base ≤ H.size := Nat.le_trans hA.1 hS.1
  have h2 := (hA.2.1.2 t0 _ ht).2
  rw [hra] at h2
  refine va_newaK hx hb harr rfl hdg rfl hn hN hbytes hcells hslots rfl fun H1 cA9 e1 z1 o1 hAr hNm => ?_
  have hcA : cA9 = cA := Option.some.inj (hNm.symm.trans h2)
  subst hcA
  obtain ⟨g1, g2⟩ := zH_new (k := k) (n := N') (H1 := H1) hH rfl hbs (by rw [he]; show H1[H.size]? = some (vp_cell _ _); rw [ha]; exact e1) o1
  exact kk H.size H1 g2 g1 ⟨Nat.le_trans hS.1 (by omega), fun x h1 h2 => (o1 x (Nat.lt_of_lt_of_le h1 hS.1)).trans (hS.2.1 x h1 h2), hS.2.2⟩
end ZROWS
section ZROWS2
variable {p : Program} {l : Launch} {e : Env} {R : Room} {s : State} {m : MethodId} {args : Array Value} {below : List Frame} {meth : Method} {c : Code} {H : Heap} {locs : List Loc} {cells slots : Nat} {Q : State → Prop} {cc : ByteArray} {pc : Nat} {ls : Array Slot} {rest st0 : List Value} {D : va_G} {cy : Nat → ClassId} {base : Nat} {w : zW} {H0 : Heap}
theorem z_newq (hx : p.tables.exec = Jvm.exec) (hb : c.code = cc) {own C : String} {index k : Nat} (hown : s.vm.findClass own = some m.cls) (hclink : (Cond.classLink own index C).before args s = true) (hover : va_AO C s) (hA : zA D cy base s) (hH : zH D cy base w H) (hS : va_S (fun q : Nat => base ≤ q) s.heap H locs)
    {n : Int32} {N' t0 : Nat} {cA : ClassId} (ht : (zTy cy)[t0]? = some (cA, .object C)) (he : ∀ q, zE cy (zNew w q k N') q = .inl (cA, N', .inr (.inr (.inr (.inr (fun _ => none)))))) (hn : ¬ n < 0) (hN : n.toNatClampNeg = N') (hbytes : N' * 4 ≤ 536870912) (hcells : cells + 1 ≤ R.cells) (hslots : slots + N' ≤ R.slots) (hdg : decode cc pc = .ok (.anewarray index, 3))
    (kk : ∀ (q : Nat) (H1 : Heap), zK w q = 0 → zH D cy base (zNew w q k N') H1 → va_S (fun q : Nat => base ≤ q) s.heap H1 locs →
      W p l e R s m args below meth c H1 locs (cells + 1) (slots + N') Q (F0 m (pc + 3) ls (.ref q :: rest))) : W p l e R s m args below meth c H locs cells slots Q (F0 m pc ls (.int n :: rest)) := by
  subst hN
  have hbs : base ≤ H.size := Nat.le_trans hA.1 hS.1
  obtain ⟨kA0, comp0, -, -, -, h2⟩ := (hA.2.1.2 t0 _ ht).2
  refine W.anew hx hb hown hclink (va_AO.use hover) rfl hdg rfl hn hbytes hcells hslots fun cA9 kA comp f1 f2 f3 f4 => ?_
  have hcA : cA9 = cA := Option.some.inj (f1.symm.trans h2)
  subst hcA
  generalize hH1 : H.push ({ cls := cA9, slots := Array.replicate n.toNatClampNeg .null, vm := .none } : Cell) = H1
  have z1 : H1.size = H.size + 1 := by rw [← hH1, Array.size_push]
  have e1 : H1[H.size]? = some (arrV cA9 n.toNatClampNeg (fun _ => .null)) := by rw [← hH1, Array.getElem?_push_size, ← arrV_new]
  have o1 : ∀ q : Nat, q < H.size → H1[q]? = H[q]? := fun q hq => by rw [← hH1, Array.getElem?_push, if_neg (Nat.ne_of_lt hq)]
  obtain ⟨g1, g2⟩ := zH_new (k := k) (n := n.toNatClampNeg) (H1 := H1) hH rfl hbs (by rw [he]; show H1[H.size]? = some (vp_cell _ _); rw [vp_cell_q]; exact e1) o1
  exact kk H.size H1 g2 g1 ⟨Nat.le_trans hS.1 (by omega), fun x h1 h2 => (o1 x (Nat.lt_of_lt_of_le h1 hS.1)).trans (hS.2.1 x h1 h2), hS.2.2⟩
/-! calls that return -/
theorem z_calli {S : Type} {HB : S → Heap → Prop} {post : Int32 → S → Prop} {mc ms : Nat} {a : Array Value} (hr : va_Run p l e R s m args below meth c H locs cells slots mc ms (F0 m pc ls st0) rest (zQi base HB post a) (fun q => base ≤ q)) (hS : va_S (fun q : Nat => base ≤ q) H0 H locs)
    (kk : ∀ (r : Int32) (u : S) (H1 : Heap) (locs1 : List Loc), post r u → HB u H1 → H.size ≤ H1.size → va_S (fun q : Nat => base ≤ q) H0 H1 locs1 → W p l e R s m args below meth c H1 locs1 (cells + mc) (slots + ms) Q (F0 m (pc + 3) ls (.int r :: rest))) : W p l e R s m args below meth c H locs cells slots Q (F0 m pc ls st0) :=
  va_calli (A0 := fun q : Nat => base ≤ q) hr hS (fun _ _ h => h) (fun _ h => h) (fun r u t H1 locs1 ht hvm hp hB hz hk hS1 => kk r u H1 locs1 hp (by rw [← ht]; exact hB) hz hS1)
theorem z_callv {S : Type} {HB : S → Heap → Prop} {post : S → Prop} {mc ms : Nat} {a : Array Value} (hr : va_Run p l e R s m args below meth c H locs cells slots mc ms (F0 m pc ls st0) rest (zQv base HB post a) (fun q => base ≤ q)) (hS : va_S (fun q : Nat => base ≤ q) H0 H locs)
    (kk : ∀ (u : S) (H1 : Heap) (locs1 : List Loc), post u → HB u H1 → H.size ≤ H1.size → va_S (fun q : Nat => base ≤ q) H0 H1 locs1 → W p l e R s m args below meth c H1 locs1 (cells + mc) (slots + ms) Q (F0 m (pc + 3) ls rest)) : W p l e R s m args below meth c H locs cells slots Q (F0 m pc ls st0) :=
  va_callv (A0 := fun q : Nat => base ≤ q) hr hS (fun _ _ h => h) (fun _ h => h) (fun u t H1 locs1 ht hvm hp hB hz hk hS1 => kk u H1 locs1 hp (by rw [← ht]; exact hB) hz hS1)
/-! calls that return or throw -/
theorem z_xcalli {S SX : Type} {HB : S → Heap → Prop} {HX : SX → Heap → Prop} {post : Int32 → S → Prop} {px : String → SX → Prop} {mc ms : Nat} {a : Array Value} (hr : vx_Run p l e R s m args below meth c H locs cells slots mc ms (F0 m pc ls st0) rest (zQi base HB post a) (zXC base HX px) (fun q => base ≤ q)) (hS : va_S (fun q : Nat => base ≤ q) H0 H locs)
    (kx : ∀ (E : String) (ce : Cell) (q9 : Addr) (u : SX) (H1 : Heap) (locs1 : List Loc), px E u → HX u H1 → H.size ≤ H1.size → va_S (fun q : Nat => base ≤ q) H0 H1 locs1 → H1[q9]? = some ce → ce.vm = .none → s.vm.findClass E = some ce.cls → vx_W p l e R s m args below meth c H1 locs1 (cells + mc) (slots + ms) Q (F0 m pc ls rest) q9)
    (kk : ∀ (r : Int32) (u : S) (H1 : Heap) (locs1 : List Loc), post r u → HB u H1 → H.size ≤ H1.size → va_S (fun q : Nat => base ≤ q) H0 H1 locs1 → W p l e R s m args below meth c H1 locs1 (cells + mc) (slots + ms) Q (F0 m (pc + 3) ls (.int r :: rest))) : W p l e R s m args below meth c H locs cells slots Q (F0 m pc ls st0) := by
  intro T hT X
  rcases hr T hT X with ⟨v, st₀, t, T', L, h0, X', hL, e1, e2, ⟨⟨r, u, hv, hp, hb⟩, hF⟩, st⟩ | ⟨q, st₀, t, T', L, E, ce, h0, X', hL, e1, e2, ⟨⟨u, hp, hb⟩, hF⟩, hce, hcv, hcl, st⟩
  · cases hv
    obtain ⟨k1, k2, k3⟩ := vx_keep (A0 := fun q : Nat => base ≤ q) h0 e1 hS (fun _ _ h => h) (fun _ h => h) hL hF
    obtain ⟨t2, a1, b1⟩ := kk r u T'.heap (locs ++ L) hp (by rw [e1]; exact hb) k1 k3 T' rfl X'
    exact ⟨t2, st t2 a1, b1⟩
  · obtain ⟨k1, k2, k3⟩ := vx_keep (A0 := fun q : Nat => base ≤ q) h0 e1 hS (fun _ _ h => h) (fun _ h => h) hL hF
    obtain ⟨t2, a1, b1⟩ := kx E ce q u T'.heap (locs ++ L) hp (by rw [e1]; exact hb) k1 k3 (by rw [e1]; exact hce) hcv hcl T' rfl X'
    exact ⟨t2, st.trans a1, b1⟩
theorem z_xcallv {S SX : Type} {HB : S → Heap → Prop} {HX : SX → Heap → Prop} {post : S → Prop} {px : String → SX → Prop} {mc ms : Nat} {a : Array Value} (hr : vx_Run p l e R s m args below meth c H locs cells slots mc ms (F0 m pc ls st0) rest (zQv base HB post a) (zXC base HX px) (fun q => base ≤ q)) (hS : va_S (fun q : Nat => base ≤ q) H0 H locs)
    (kx : ∀ (E : String) (ce : Cell) (q9 : Addr) (u : SX) (H1 : Heap) (locs1 : List Loc), px E u → HX u H1 → H.size ≤ H1.size → va_S (fun q : Nat => base ≤ q) H0 H1 locs1 → H1[q9]? = some ce → ce.vm = .none → s.vm.findClass E = some ce.cls → vx_W p l e R s m args below meth c H1 locs1 (cells + mc) (slots + ms) Q (F0 m pc ls rest) q9)
    (kk : ∀ (u : S) (H1 : Heap) (locs1 : List Loc), post u → HB u H1 → H.size ≤ H1.size → va_S (fun q : Nat => base ≤ q) H0 H1 locs1 → W p l e R s m args below meth c H1 locs1 (cells + mc) (slots + ms) Q (F0 m (pc + 3) ls rest)) : W p l e R s m args below meth c H locs cells slots Q (F0 m pc ls st0) := by
  intro T hT X
  rcases hr T hT X with ⟨v, st₀, t, T', L, h0, X', hL, e1, e2, ⟨⟨u, hv, hp, hb⟩, hF⟩, st⟩ | ⟨q, st₀, t, T', L, E, ce, h0, X', hL, e1, e2, ⟨⟨u, hp, hb⟩, hF⟩, hce, hcv, hcl, st⟩
  · cases hv
    obtain ⟨k1, k2, k3⟩ := vx_keep (A0 := fun q : Nat => base ≤ q) h0 e1 hS (fun _ _ h => h) (fun _ h => h) hL hF
    obtain ⟨t2, a1, b1⟩ := kk u T'.heap (locs ++ L) hp (by rw [e1]; exact hb) k1 k3 T' rfl X'
    exact ⟨t2, st t2 a1, b1⟩
  · obtain ⟨k1, k2, k3⟩ := vx_keep (A0 := fun q : Nat => base ≤ q) h0 e1 hS (fun _ _ h => h) (fun _ h => h) hL hF
    obtain ⟨t2, a1, b1⟩ := kx E ce q u T'.heap (locs ++ L) hp (by rw [e1]; exact hb) k1 k3 (by rw [e1]; exact hce) hcv hcl T' rfl X'
    exact ⟨t2, st.trans a1, b1⟩
theorem z_xcallr {S SX : Type} {HB : S → Heap → Prop} {HX : SX → Heap → Prop} {post : Nat → S → Prop} {px : String → SX → Prop} {mc ms : Nat} {a : Array Value} (hr : vx_Run p l e R s m args below meth c H locs cells slots mc ms (F0 m pc ls st0) rest (zQr base HB post a) (zXC base HX px) (fun q => base ≤ q)) (hS : va_S (fun q : Nat => base ≤ q) H0 H locs)
    (kx : ∀ (E : String) (ce : Cell) (q9 : Addr) (u : SX) (H1 : Heap) (locs1 : List Loc), px E u → HX u H1 → H.size ≤ H1.size → va_S (fun q : Nat => base ≤ q) H0 H1 locs1 → H1[q9]? = some ce → ce.vm = .none → s.vm.findClass E = some ce.cls → vx_W p l e R s m args below meth c H1 locs1 (cells + mc) (slots + ms) Q (F0 m pc ls rest) q9)
    (kk : ∀ (r : Nat) (u : S) (H1 : Heap) (locs1 : List Loc), post r u → HB u H1 → H.size ≤ H1.size → va_S (fun q : Nat => base ≤ q) H0 H1 locs1 → W p l e R s m args below meth c H1 locs1 (cells + mc) (slots + ms) Q (F0 m (pc + 3) ls (.ref r :: rest))) : W p l e R s m args below meth c H locs cells slots Q (F0 m pc ls st0) := by
  intro T hT X
  rcases hr T hT X with ⟨v, st₀, t, T', L, h0, X', hL, e1, e2, ⟨⟨r, u, hv, hp, hb⟩, hF⟩, st⟩ | ⟨q, st₀, t, T', L, E, ce, h0, X', hL, e1, e2, ⟨⟨u, hp, hb⟩, hF⟩, hce, hcv, hcl, st⟩
  · cases hv
    obtain ⟨k1, k2, k3⟩ := vx_keep (A0 := fun q : Nat => base ≤ q) h0 e1 hS (fun _ _ h => h) (fun _ h => h) hL hF
    obtain ⟨t2, a1, b1⟩ := kk r u T'.heap (locs ++ L) hp (by rw [e1]; exact hb) k1 k3 T' rfl X'
    exact ⟨t2, st t2 a1, b1⟩
  · obtain ⟨k1, k2, k3⟩ := vx_keep (A0 := fun q : Nat => base ≤ q) h0 e1 hS (fun _ _ h => h) (fun _ h => h) hL hF
    obtain ⟨t2, a1, b1⟩ := kx E ce q u T'.heap (locs ++ L) hp (by rw [e1]; exact hb) k1 k3 (by rw [e1]; exact hce) hcv hcl T' rfl X'
    exact ⟨t2, st.trans a1, b1⟩
/-! ends -/
theorem z_iret {S : Type} {HB : S → Heap → Prop} {post : Int32 → S → Prop} {mc ms : Nat} {v : Int32} {u : S} (hx : p.tables.exec = Jvm.exec) (hb : c.code = cc) (hr : meth.sig.returnType = some .int) (hlocks : meth.locks = false) (hH : HB u H) (hS : va_S (fun q : Nat => base ≤ q) s.heap H locs) (hp : post v u) (hc : cells ≤ mc) (hs : slots ≤ ms) (hdg : decode cc pc = .ok (.ireturn, 1)) :
    W p l e R s m args below meth c H locs cells slots (MQ below (zQi base HB post) args s mc ms (fun q => base ≤ q)) (F0 m pc ls [.int v]) := by
  refine W.widen (k := mc) (n := ms) hc hs ?_
  exact W.iret (v := v) hx hb hr (fun t ht hW => ⟨⟨v, u, rfl, hp, show HB u t.heap by rw [ht]; exact hH⟩, hS.F ht⟩) hS.2.2 hdg hlocks
theorem z_zret {S : Type} {HB : S → Heap → Prop} {post : Int32 → S → Prop} {mc ms : Nat} {v : Int32} {u : S} (hx : p.tables.exec = Jvm.exec) (hb : c.code = cc) (hr : meth.sig.returnType = some .boolean) (hlocks : meth.locks = false) (hH : HB u H) (hS : va_S (fun q : Nat => base ≤ q) s.heap H locs) (hv : narrow .boolean (.int v) = .int v) (hp : post v u) (hc : cells ≤ mc) (hs : slots ≤ ms) (hdg : decode cc pc = .ok (.ireturn, 1)) :
    W p l e R s m args below meth c H locs cells slots (MQ below (zQi base HB post) args s mc ms (fun q => base ≤ q)) (F0 m pc ls [.int v]) := by
  refine W.widen (k := mc) (n := ms) hc hs ?_
  exact W.zret (v := v) hx hb hr hv (fun t ht hW => ⟨⟨v, u, rfl, hp, show HB u t.heap by rw [ht]; exact hH⟩, hS.F ht⟩) hS.2.2 hdg hlocks
theorem z_vret {S : Type} {HB : S → Heap → Prop} {post : S → Prop} {mc ms : Nat} {u : S} (hx : p.tables.exec = Jvm.exec) (hb : c.code = cc) (hr : meth.sig.returnType = none) (hlocks : meth.locks = false) (hH : HB u H) (hS : va_S (fun q : Nat => base ≤ q) s.heap H locs) (hp : post u) (hc : cells ≤ mc) (hs : slots ≤ ms) (hdg : decode cc pc = .ok (.return_, 1)) :
    W p l e R s m args below meth c H locs cells slots (MQ below (zQv base HB post) args s mc ms (fun q => base ≤ q)) (F0 m pc ls []) := by
  refine W.widen (k := mc) (n := ms) hc hs ?_
  exact W.vret hx hb hr (fun t ht hW => ⟨⟨u, rfl, hp, show HB u t.heap by rw [ht]; exact hH⟩, hS.F ht⟩) hS.2.2 hdg hlocks
theorem z_aret {S : Type} {HB : S → Heap → Prop} {post : Nat → S → Prop} {mc ms : Nat} {v : Nat} {u : S} {n9 : String} (hx : p.tables.exec = Jvm.exec) (hb : c.code = cc) (hr : meth.sig.returnType = some (.object n9)) (hlocks : meth.locks = false) (hH : HB u H) (hS : va_S (fun q : Nat => base ≤ q) s.heap H locs) (hp : post v u) (hc : cells ≤ mc) (hs : slots ≤ ms) (hdg : decode cc pc = .ok (.areturn, 1)) :
    W p l e R s m args below meth c H locs cells slots (MQ below (zQr base HB post) args s mc ms (fun q => base ≤ q)) (F0 m pc ls [.ref v]) := by
  refine W.widen (k := mc) (n := ms) hc hs ?_
  exact W.aret (v := .ref v) hx hb hr (Or.inl ⟨_, rfl⟩) (Or.inr ⟨_, rfl⟩) (fun t ht hW => ⟨⟨v, u, rfl, hp, show HB u t.heap by rw [ht]; exact hH⟩, hS.F ht⟩) hS.2.2 hdg hlocks
/-- a throw of the callee's leaves this method -/
theorem z_out {S : Type} {Qc : Array Value → State → Outcome → State → Prop} {HB : S → Heap → Prop} {px : String → S → Prop} {mc ms : Nat} {u : S} {E : String} {ce : Cell} {q : Addr} (htab : ∀ x ∈ c.exceptionTable.toList, False) (hlocks : meth.locks = false) (hH : HB u H) (hS : va_S (fun q : Nat => base ≤ q) s.heap H locs) (hce : H[q]? = some ce) (hv : ce.vm = .none) (hcl : s.vm.findClass E = some ce.cls) (hp : px E u) (hc : cells ≤ mc) (hs : slots ≤ ms) :
    vx_W p l e R s m args below meth c H locs cells slots (vx_MQ below Qc (zXC base HB px) args s mc ms (fun q => base ≤ q)) (F0 m pc ls rest) q :=
  vx_out (fun x hx => (htab x hx).elim) hlocks hce hv hcl (fun t ht _ => ⟨⟨u, hp, show HB u t.heap by rw [ht]; exact hH⟩, hS.F ht⟩) hS.2.2 hc hs
theorem zUp_fit : ∀ n ∈ zUp, Bundle.fit n = true := by
  intro n hn
  exact List.all_eq_true.mp (show zUp.all (fun n => Bundle.fit n) = true by decide +kernel) n hn
/-- a throw of this method's own -/
theorem z_throwS {Qc : Array Value → State → Outcome → State → Prop} {px : String → zW → Prop} {mc ms : Nat} (hx : p.tables.exec = Jvm.exec) (hb : c.code = cc) (hl : l.stackTraces = false) {own cls text : String} {ik is ic : Nat} (hown : s.vm.findClass own = some m.cls) (hcls : Bundle.fit cls = true)
    (hk : (Cond.classLink own ik cls).before args s = true) (hini : (Cond.initialized cls).before args s = true) (hA : zA D cy base s) (htx : (own, is, text) ∈ zTexts) (hat1 : ∀ w ∈ (vx_atS own ic cls zUp).filter goodWord, w.before args s = true) (hat2 : ∀ w ∈ (vx_atS own ic cls zUp).filter (fun w => !goodWord w), w ∈ zFace)
    (hgood : (Cond.classLink own ik cls :: Cond.initialized cls :: vx_atS own ic cls zUp).all vx_ot = true) (hH : zH D cy base w H) (hS : va_S (fun q : Nat => base ≤ q) s.heap H locs) (hsize : ls.size = c.maxLocals)
    (d0 : decode cc pc = .ok (.new ik, 3)) (d3 : decode cc (pc + 3) = .ok (.dup, 1)) (d4 : decode cc (pc + 4) = .ok (.ldc is, 2)) (d6 : decode cc (pc + 6) = .ok (.invokespecial ic, 3)) (d9 : decode cc (pc + 9) = .ok (.athrow, 1))
    (htab : ∀ x ∈ c.exceptionTable.toList, False) (hRf : 5 < R.frames) (hRl : (rest.map fun v => v.category).sum + 82 ≤ R.locals) (hRcells : cells + 1 ≤ R.cells) (hRslots : slots + 6 ≤ R.slots) (hlocks : meth.locks = false) (hp : px cls w) (hc : cells + 1 ≤ mc) (hs : slots + 6 ≤ ms) :
    W p l e R s m args below meth c H locs cells slots (vx_MQ below Qc (zXC base (zH D cy base) px) args s mc ms (fun q => base ≤ q)) (F0 m pc ls rest) := by
  obtain ⟨sa, hstr⟩ := hA.2.2.2.1 _ htx
  have hfc := hA.2.2.2.2.1
  have hf3 : ∀ w ∈ zFace, w.before args s = true := by
    intro w hw
    have h1 := List.all_eq_true.mp zFace_ok w hw
    rw [Bool.and_eq_true] at h1
    exact va_tabs h1.1 rfl (hfc w hw)
  refine vx_throwS (names := zUp) hx hb hl hown hcls zUp_fit hk hini hstr (vx_hat hat1 hat2 hf3) (fun w hw => List.all_eq_true.mp hgood w hw) hA.2.2.1.1 hA.2.2.1.2 hS hsize d0 d3 d4 d6 d9 (fun x hx => (htab x hx).elim) hRf hRl hRcells hRslots hlocks ?_ hS.2.2 hc hs
  intro t hvm hz hq
  refine ⟨⟨w, hp, fun a ha => ⟨(hH a ha).1, (hH a ha).2.kept (hq a (hH a ha).2.lt)⟩⟩, Nat.le_trans hS.1 hz, fun q h1 h2 => ?_⟩
  rw [hq q (Nat.lt_of_lt_of_le h1 hS.1)]
  exact hS.2.1 q h1 h2
end ZROWS2
end
section
section CELLS
variable {cy : Nat → ClassId} {w : zW} {a : Nat}
theorem zE_k1 (h : zK w a = 1) : zE cy w a = .inr (0, zF0 (fun g => zI w g a) (fun g => zP w g a)) := by unfold zE; rw [h]; rfl
theorem zE_k2 (h : zK w a = 2) : zE cy w a = .inr (1, zF1 (fun g => zI w g a) (fun g => zP w g a)) := by unfold zE; rw [h]; rfl
theorem zE_k3 (h : zK w a = 3) : zE cy w a = .inr (2, zF2 (fun g => zI w g a) (fun g => zP w g a)) := by unfold zE; rw [h]; rfl
theorem zE_k4 (h : zK w a = 4) : zE cy w a = .inr (3, zF3 (fun g => zI w g a) (fun g => zP w g a)) := by unfold zE; rw [h]; rfl
theorem zE_k5 (h : zK w a = 5) : zE cy w a = .inr (4, zF4 (fun g => zI w g a) (fun g => zP w g a)) := by unfold zE; rw [h]; rfl
theorem zE_k6 (h : zK w a = 6) : zE cy w a = .inr (5, zF5 (fun g => zI w g a) (fun g => zP w g a)) := by unfold zE; rw [h]; rfl
theorem zE_k7 (h : zK w a = 7) : zE cy w a = .inr (6, zF6 (fun g => zI w g a) (fun g => zP w g a)) := by unfold zE; rw [h]; rfl
theorem zE_k8 (h : zK w a = 8) : zE cy w a = .inl (cy 0, zN w a, .inl (zR w a)) := by unfold zE; rw [h]; rfl
theorem zE_k9 (h : zK w a = 9) : zE cy w a = .inl (cy 1, zN w a, .inl (zR w a)) := by unfold zE; rw [h]; rfl
theorem zE_k10 (h : zK w a = 10) : zE cy w a = .inl (cy 2, zN w a, .inr (.inr (.inr (.inr (zQ w a))))) := by unfold zE; rw [h]; rfl
theorem zE_k11 (h : zK w a = 11) : zE cy w a = .inl (cy 3, zN w a, .inr (.inr (.inr (.inr (zQ w a))))) := by unfold zE; rw [h]; rfl
theorem zE_k12 (h : zK w a = 12) : zE cy w a = .inl (cy 4, zN w a, .inr (.inr (.inr (.inr (zQ w a))))) := by unfold zE; rw [h]; rfl
theorem zE_k13 (h : zK w a = 13) : zE cy w a = .inl (cy 5, zN w a, .inr (.inr (.inr (.inr (zQ w a))))) := by unfold zE; rw [h]; rfl
theorem zE_k14 (h : zK w a = 14) : zE cy w a = .inl (cy 6, zN w a, .inr (.inl (zJ w a))) := by unfold zE; rw [h]; rfl
theorem zE_k15 (h : zK w a = 15) : zE cy w a = .inl (cy 0, zN w a, .inl (zR w a)) := by unfold zE; rw [h]; rfl
theorem zs_0 (h : zK w a = 1) (v : Int32) : zE cy (zsI w 0 a v) a = .inr (0, (zF0 (fun g => zI w g a) (fun g => zP w g a)).set 0 (.int v)) := by
  rw [zE_k1 (w := zsI w 0 a v) h]
  simp [zsI, zI, zP, z2, va_up]
theorem zs_1 (h : zK w a = 1) (v : Int32) : zE cy (zsI w 1 a v) a = .inr (0, (zF0 (fun g => zI w g a) (fun g => zP w g a)).set 1 (.int v)) := by
  rw [zE_k1 (w := zsI w 1 a v) h]
  simp [zsI, zI, zP, z2, va_up]
theorem zs_2 (h : zK w a = 1) (v : Int32) : zE cy (zsI w 2 a v) a = .inr (0, (zF0 (fun g => zI w g a) (fun g => zP w g a)).set 2 (.int v)) := by
  rw [zE_k1 (w := zsI w 2 a v) h]
  simp [zsI, zI, zP, z2, va_up]
theorem zs_3 (h : zK w a = 1) (v : Int32) : zE cy (zsI w 3 a v) a = .inr (0, (zF0 (fun g => zI w g a) (fun g => zP w g a)).set 3 (.int v)) := by
  rw [zE_k1 (w := zsI w 3 a v) h]
  simp [zsI, zI, zP, z2, va_up]
theorem zs_100 (h : zK w a = 2) (v : Int32) : zE cy (zsI w 100 a v) a = .inr (1, (zF1 (fun g => zI w g a) (fun g => zP w g a)).set 0 (.int v)) := by
  rw [zE_k2 (w := zsI w 100 a v) h]
  simp [zsI, zI, zP, z2, va_up]
theorem zs_101 (h : zK w a = 2) (v : Int32) : zE cy (zsI w 101 a v) a = .inr (1, (zF1 (fun g => zI w g a) (fun g => zP w g a)).set 1 (.int v)) := by
  rw [zE_k2 (w := zsI w 101 a v) h]
  simp [zsI, zI, zP, z2, va_up]
theorem zs_102 (h : zK w a = 2) (v : Option Nat) : zE cy (zsP w 102 a v) a = .inr (1, (zF1 (fun g => zI w g a) (fun g => zP w g a)).set 2 (va_rf v)) := by
  rw [zE_k2 (w := zsP w 102 a v) h]
  simp [zsP, zI, zP, z2, va_up]
theorem zs_103 (h : zK w a = 2) (v : Int32) : zE cy (zsI w 103 a v) a = .inr (1, (zF1 (fun g => zI w g a) (fun g => zP w g a)).set 3 (.int v)) := by
  rw [zE_k2 (w := zsI w 103 a v) h]
  simp [zsI, zI, zP, z2, va_up]
theorem zs_104 (h : zK w a = 2) (v : Int32) : zE cy (zsI w 104 a v) a = .inr (1, (zF1 (fun g => zI w g a) (fun g => zP w g a)).set 4 (.int v)) := by
  rw [zE_k2 (w := zsI w 104 a v) h]
  simp [zsI, zI, zP, z2, va_up]
theorem zs_105 (h : zK w a = 2) (v : Int32) : zE cy (zsI w 105 a v) a = .inr (1, (zF1 (fun g => zI w g a) (fun g => zP w g a)).set 5 (.int v)) := by
  rw [zE_k2 (w := zsI w 105 a v) h]
  simp [zsI, zI, zP, z2, va_up]
theorem zs_200 (h : zK w a = 3) (v : Int32) : zE cy (zsI w 200 a v) a = .inr (2, (zF2 (fun g => zI w g a) (fun g => zP w g a)).set 0 (.int v)) := by
  rw [zE_k3 (w := zsI w 200 a v) h]
  simp [zsI, zI, zP, z2, va_up]
theorem zs_201 (h : zK w a = 3) (v : Int32) : zE cy (zsI w 201 a v) a = .inr (2, (zF2 (fun g => zI w g a) (fun g => zP w g a)).set 1 (.int v)) := by
  rw [zE_k3 (w := zsI w 201 a v) h]
  simp [zsI, zI, zP, z2, va_up]
theorem zs_202 (h : zK w a = 3) (v : Int32) : zE cy (zsI w 202 a v) a = .inr (2, (zF2 (fun g => zI w g a) (fun g => zP w g a)).set 2 (.int v)) := by
  rw [zE_k3 (w := zsI w 202 a v) h]
  simp [zsI, zI, zP, z2, va_up]
theorem zs_203 (h : zK w a = 3) (v : Int32) : zE cy (zsI w 203 a v) a = .inr (2, (zF2 (fun g => zI w g a) (fun g => zP w g a)).set 3 (.int v)) := by
  rw [zE_k3 (w := zsI w 203 a v) h]
  simp [zsI, zI, zP, z2, va_up]
theorem zs_204 (h : zK w a = 3) (v : Int32) : zE cy (zsI w 204 a v) a = .inr (2, (zF2 (fun g => zI w g a) (fun g => zP w g a)).set 4 (.int v)) := by
  rw [zE_k3 (w := zsI w 204 a v) h]
  simp [zsI, zI, zP, z2, va_up]
theorem zs_205 (h : zK w a = 3) (v : Int32) : zE cy (zsI w 205 a v) a = .inr (2, (zF2 (fun g => zI w g a) (fun g => zP w g a)).set 5 (.int v)) := by
  rw [zE_k3 (w := zsI w 205 a v) h]
  simp [zsI, zI, zP, z2, va_up]
theorem zs_206 (h : zK w a = 3) (v : Int32) : zE cy (zsI w 206 a v) a = .inr (2, (zF2 (fun g => zI w g a) (fun g => zP w g a)).set 6 (.int v)) := by
  rw [zE_k3 (w := zsI w 206 a v) h]
  simp [zsI, zI, zP, z2, va_up]
theorem zs_207 (h : zK w a = 3) (v : Option Nat) : zE cy (zsP w 207 a v) a = .inr (2, (zF2 (fun g => zI w g a) (fun g => zP w g a)).set 7 (va_rf v)) := by
  rw [zE_k3 (w := zsP w 207 a v) h]
  simp [zsP, zI, zP, z2, va_up]
theorem zs_208 (h : zK w a = 3) (v : Int32) : zE cy (zsI w 208 a v) a = .inr (2, (zF2 (fun g => zI w g a) (fun g => zP w g a)).set 8 (.int v)) := by
  rw [zE_k3 (w := zsI w 208 a v) h]
  simp [zsI, zI, zP, z2, va_up]
theorem zs_209 (h : zK w a = 3) (v : Int32) : zE cy (zsI w 209 a v) a = .inr (2, (zF2 (fun g => zI w g a) (fun g => zP w g a)).set 9 (.int v)) := by
  rw [zE_k3 (w := zsI w 209 a v) h]
  simp [zsI, zI, zP, z2, va_up]
theorem zs_210 (h : zK w a = 3) (v : Option Nat) : zE cy (zsP w 210 a v) a = .inr (2, (zF2 (fun g => zI w g a) (fun g => zP w g a)).set 10 (va_rf v)) := by
  rw [zE_k3 (w := zsP w 210 a v) h]
  simp [zsP, zI, zP, z2, va_up]
theorem zs_211 (h : zK w a = 3) (v : Option Nat) : zE cy (zsP w 211 a v) a = .inr (2, (zF2 (fun g => zI w g a) (fun g => zP w g a)).set 11 (va_rf v)) := by
  rw [zE_k3 (w := zsP w 211 a v) h]
  simp [zsP, zI, zP, z2, va_up]
theorem zs_212 (h : zK w a = 3) (v : Int32) : zE cy (zsI w 212 a v) a = .inr (2, (zF2 (fun g => zI w g a) (fun g => zP w g a)).set 12 (.int v)) := by
  rw [zE_k3 (w := zsI w 212 a v) h]
  simp [zsI, zI, zP, z2, va_up]
theorem zs_213 (h : zK w a = 3) (v : Int32) : zE cy (zsI w 213 a v) a = .inr (2, (zF2 (fun g => zI w g a) (fun g => zP w g a)).set 13 (.int v)) := by
  rw [zE_k3 (w := zsI w 213 a v) h]
  simp [zsI, zI, zP, z2, va_up]
theorem zs_300 (h : zK w a = 4) (v : Option Nat) : zE cy (zsP w 300 a v) a = .inr (3, (zF3 (fun g => zI w g a) (fun g => zP w g a)).set 0 (va_rf v)) := by
  rw [zE_k4 (w := zsP w 300 a v) h]
  simp [zsP, zI, zP, z2, va_up]
theorem zs_301 (h : zK w a = 4) (v : Int32) : zE cy (zsI w 301 a v) a = .inr (3, (zF3 (fun g => zI w g a) (fun g => zP w g a)).set 1 (.int v)) := by
  rw [zE_k4 (w := zsI w 301 a v) h]
  simp [zsI, zI, zP, z2, va_up]
theorem zs_302 (h : zK w a = 4) (v : Int32) : zE cy (zsI w 302 a v) a = .inr (3, (zF3 (fun g => zI w g a) (fun g => zP w g a)).set 2 (.int v)) := by
  rw [zE_k4 (w := zsI w 302 a v) h]
  simp [zsI, zI, zP, z2, va_up]
theorem zs_303 (h : zK w a = 4) (v : Int32) : zE cy (zsI w 303 a v) a = .inr (3, (zF3 (fun g => zI w g a) (fun g => zP w g a)).set 3 (.int v)) := by
  rw [zE_k4 (w := zsI w 303 a v) h]
  simp [zsI, zI, zP, z2, va_up]
theorem zs_400 (h : zK w a = 5) (v : Int32) : zE cy (zsI w 400 a v) a = .inr (4, (zF4 (fun g => zI w g a) (fun g => zP w g a)).set 0 (.int v)) := by
  rw [zE_k5 (w := zsI w 400 a v) h]
  simp [zsI, zI, zP, z2, va_up]
theorem zs_401 (h : zK w a = 5) (v : Int32) : zE cy (zsI w 401 a v) a = .inr (4, (zF4 (fun g => zI w g a) (fun g => zP w g a)).set 1 (.int v)) := by
  rw [zE_k5 (w := zsI w 401 a v) h]
  simp [zsI, zI, zP, z2, va_up]
theorem zs_500 (h : zK w a = 6) (v : Option Nat) : zE cy (zsP w 500 a v) a = .inr (5, (zF5 (fun g => zI w g a) (fun g => zP w g a)).set 0 (va_rf v)) := by
  rw [zE_k6 (w := zsP w 500 a v) h]
  simp [zsP, zI, zP, z2, va_up]
theorem zs_501 (h : zK w a = 6) (v : Option Nat) : zE cy (zsP w 501 a v) a = .inr (5, (zF5 (fun g => zI w g a) (fun g => zP w g a)).set 1 (va_rf v)) := by
  rw [zE_k6 (w := zsP w 501 a v) h]
  simp [zsP, zI, zP, z2, va_up]
theorem zs_502 (h : zK w a = 6) (v : Option Nat) : zE cy (zsP w 502 a v) a = .inr (5, (zF5 (fun g => zI w g a) (fun g => zP w g a)).set 2 (va_rf v)) := by
  rw [zE_k6 (w := zsP w 502 a v) h]
  simp [zsP, zI, zP, z2, va_up]
theorem zs_503 (h : zK w a = 6) (v : Int32) : zE cy (zsI w 503 a v) a = .inr (5, (zF5 (fun g => zI w g a) (fun g => zP w g a)).set 3 (.int v)) := by
  rw [zE_k6 (w := zsI w 503 a v) h]
  simp [zsI, zI, zP, z2, va_up]
theorem zs_504 (h : zK w a = 6) (v : Int32) : zE cy (zsI w 504 a v) a = .inr (5, (zF5 (fun g => zI w g a) (fun g => zP w g a)).set 4 (.int v)) := by
  rw [zE_k6 (w := zsI w 504 a v) h]
  simp [zsI, zI, zP, z2, va_up]
theorem zs_505 (h : zK w a = 6) (v : Int32) : zE cy (zsI w 505 a v) a = .inr (5, (zF5 (fun g => zI w g a) (fun g => zP w g a)).set 5 (.int v)) := by
  rw [zE_k6 (w := zsI w 505 a v) h]
  simp [zsI, zI, zP, z2, va_up]
theorem zs_600 (h : zK w a = 7) (v : Int32) : zE cy (zsI w 600 a v) a = .inr (6, (zF6 (fun g => zI w g a) (fun g => zP w g a)).set 0 (.int v)) := by
  rw [zE_k7 (w := zsI w 600 a v) h]
  simp [zsI, zI, zP, z2, va_up]
theorem zs_601 (h : zK w a = 7) (v : Int32) : zE cy (zsI w 601 a v) a = .inr (6, (zF6 (fun g => zI w g a) (fun g => zP w g a)).set 1 (.int v)) := by
  rw [zE_k7 (w := zsI w 601 a v) h]
  simp [zsI, zI, zP, z2, va_up]
theorem zs_602 (h : zK w a = 7) (v : Option Nat) : zE cy (zsP w 602 a v) a = .inr (6, (zF6 (fun g => zI w g a) (fun g => zP w g a)).set 2 (va_rf v)) := by
  rw [zE_k7 (w := zsP w 602 a v) h]
  simp [zsP, zI, zP, z2, va_up]
theorem zs_603 (h : zK w a = 7) (v : Option Nat) : zE cy (zsP w 603 a v) a = .inr (6, (zF6 (fun g => zI w g a) (fun g => zP w g a)).set 3 (va_rf v)) := by
  rw [zE_k7 (w := zsP w 603 a v) h]
  simp [zsP, zI, zP, z2, va_up]
theorem zs_604 (h : zK w a = 7) (v : Option Nat) : zE cy (zsP w 604 a v) a = .inr (6, (zF6 (fun g => zI w g a) (fun g => zP w g a)).set 4 (va_rf v)) := by
  rw [zE_k7 (w := zsP w 604 a v) h]
  simp [zsP, zI, zP, z2, va_up]
theorem zs_605 (h : zK w a = 7) (v : Option Nat) : zE cy (zsP w 605 a v) a = .inr (6, (zF6 (fun g => zI w g a) (fun g => zP w g a)).set 5 (va_rf v)) := by
  rw [zE_k7 (w := zsP w 605 a v) h]
  simp [zsP, zI, zP, z2, va_up]
theorem zs_606 (h : zK w a = 7) (v : Option Nat) : zE cy (zsP w 606 a v) a = .inr (6, (zF6 (fun g => zI w g a) (fun g => zP w g a)).set 6 (va_rf v)) := by
  rw [zE_k7 (w := zsP w 606 a v) h]
  simp [zsP, zI, zP, z2, va_up]
theorem zs_607 (h : zK w a = 7) (v : Option Nat) : zE cy (zsP w 607 a v) a = .inr (6, (zF6 (fun g => zI w g a) (fun g => zP w g a)).set 7 (va_rf v)) := by
  rw [zE_k7 (w := zsP w 607 a v) h]
  simp [zsP, zI, zP, z2, va_up]
theorem zs_608 (h : zK w a = 7) (v : Option Nat) : zE cy (zsP w 608 a v) a = .inr (6, (zF6 (fun g => zI w g a) (fun g => zP w g a)).set 8 (va_rf v)) := by
  rw [zE_k7 (w := zsP w 608 a v) h]
  simp [zsP, zI, zP, z2, va_up]
theorem zs_609 (h : zK w a = 7) (v : Option Nat) : zE cy (zsP w 609 a v) a = .inr (6, (zF6 (fun g => zI w g a) (fun g => zP w g a)).set 9 (va_rf v)) := by
  rw [zE_k7 (w := zsP w 609 a v) h]
  simp [zsP, zI, zP, z2, va_up]
theorem zs_610 (h : zK w a = 7) (v : Option Nat) : zE cy (zsP w 610 a v) a = .inr (6, (zF6 (fun g => zI w g a) (fun g => zP w g a)).set 10 (va_rf v)) := by
  rw [zE_k7 (w := zsP w 610 a v) h]
  simp [zsP, zI, zP, z2, va_up]
theorem zs_611 (h : zK w a = 7) (v : Option Nat) : zE cy (zsP w 611 a v) a = .inr (6, (zF6 (fun g => zI w g a) (fun g => zP w g a)).set 11 (va_rf v)) := by
  rw [zE_k7 (w := zsP w 611 a v) h]
  simp [zsP, zI, zP, z2, va_up]
theorem zs_612 (h : zK w a = 7) (v : Option Nat) : zE cy (zsP w 612 a v) a = .inr (6, (zF6 (fun g => zI w g a) (fun g => zP w g a)).set 12 (va_rf v)) := by
  rw [zE_k7 (w := zsP w 612 a v) h]
  simp [zsP, zI, zP, z2, va_up]
theorem zs_613 (h : zK w a = 7) (v : Option Nat) : zE cy (zsP w 613 a v) a = .inr (6, (zF6 (fun g => zI w g a) (fun g => zP w g a)).set 13 (va_rf v)) := by
  rw [zE_k7 (w := zsP w 613 a v) h]
  simp [zsP, zI, zP, z2, va_up]
theorem zs_614 (h : zK w a = 7) (v : Option Nat) : zE cy (zsP w 614 a v) a = .inr (6, (zF6 (fun g => zI w g a) (fun g => zP w g a)).set 14 (va_rf v)) := by
  rw [zE_k7 (w := zsP w 614 a v) h]
  simp [zsP, zI, zP, z2, va_up]
theorem zs_615 (h : zK w a = 7) (v : Option Nat) : zE cy (zsP w 615 a v) a = .inr (6, (zF6 (fun g => zI w g a) (fun g => zP w g a)).set 15 (va_rf v)) := by
  rw [zE_k7 (w := zsP w 615 a v) h]
  simp [zsP, zI, zP, z2, va_up]
theorem zs_616 (h : zK w a = 7) (v : Option Nat) : zE cy (zsP w 616 a v) a = .inr (6, (zF6 (fun g => zI w g a) (fun g => zP w g a)).set 16 (va_rf v)) := by
  rw [zE_k7 (w := zsP w 616 a v) h]
  simp [zsP, zI, zP, z2, va_up]
theorem zs_617 (h : zK w a = 7) (v : Option Nat) : zE cy (zsP w 617 a v) a = .inr (6, (zF6 (fun g => zI w g a) (fun g => zP w g a)).set 17 (va_rf v)) := by
  rw [zE_k7 (w := zsP w 617 a v) h]
  simp [zsP, zI, zP, z2, va_up]
theorem zs_618 (h : zK w a = 7) (v : Option Nat) : zE cy (zsP w 618 a v) a = .inr (6, (zF6 (fun g => zI w g a) (fun g => zP w g a)).set 18 (va_rf v)) := by
  rw [zE_k7 (w := zsP w 618 a v) h]
  simp [zsP, zI, zP, z2, va_up]
theorem zs_619 (h : zK w a = 7) (v : Option Nat) : zE cy (zsP w 619 a v) a = .inr (6, (zF6 (fun g => zI w g a) (fun g => zP w g a)).set 19 (va_rf v)) := by
  rw [zE_k7 (w := zsP w 619 a v) h]
  simp [zsP, zI, zP, z2, va_up]
theorem zs_620 (h : zK w a = 7) (v : Option Nat) : zE cy (zsP w 620 a v) a = .inr (6, (zF6 (fun g => zI w g a) (fun g => zP w g a)).set 20 (va_rf v)) := by
  rw [zE_k7 (w := zsP w 620 a v) h]
  simp [zsP, zI, zP, z2, va_up]
theorem zs_621 (h : zK w a = 7) (v : Option Nat) : zE cy (zsP w 621 a v) a = .inr (6, (zF6 (fun g => zI w g a) (fun g => zP w g a)).set 21 (va_rf v)) := by
  rw [zE_k7 (w := zsP w 621 a v) h]
  simp [zsP, zI, zP, z2, va_up]
theorem zs_622 (h : zK w a = 7) (v : Int32) : zE cy (zsI w 622 a v) a = .inr (6, (zF6 (fun g => zI w g a) (fun g => zP w g a)).set 22 (.int v)) := by
  rw [zE_k7 (w := zsI w 622 a v) h]
  simp [zsI, zI, zP, z2, va_up]
theorem zs_623 (h : zK w a = 7) (v : Option Nat) : zE cy (zsP w 623 a v) a = .inr (6, (zF6 (fun g => zI w g a) (fun g => zP w g a)).set 23 (va_rf v)) := by
  rw [zE_k7 (w := zsP w 623 a v) h]
  simp [zsP, zI, zP, z2, va_up]
theorem zs_624 (h : zK w a = 7) (v : Option Nat) : zE cy (zsP w 624 a v) a = .inr (6, (zF6 (fun g => zI w g a) (fun g => zP w g a)).set 24 (va_rf v)) := by
  rw [zE_k7 (w := zsP w 624 a v) h]
  simp [zsP, zI, zP, z2, va_up]
theorem zs_625 (h : zK w a = 7) (v : Option Nat) : zE cy (zsP w 625 a v) a = .inr (6, (zF6 (fun g => zI w g a) (fun g => zP w g a)).set 25 (va_rf v)) := by
  rw [zE_k7 (w := zsP w 625 a v) h]
  simp [zsP, zI, zP, z2, va_up]
theorem zs_626 (h : zK w a = 7) (v : Option Nat) : zE cy (zsP w 626 a v) a = .inr (6, (zF6 (fun g => zI w g a) (fun g => zP w g a)).set 26 (va_rf v)) := by
  rw [zE_k7 (w := zsP w 626 a v) h]
  simp [zsP, zI, zP, z2, va_up]
theorem zs_627 (h : zK w a = 7) (v : Int32) : zE cy (zsI w 627 a v) a = .inr (6, (zF6 (fun g => zI w g a) (fun g => zP w g a)).set 27 (.int v)) := by
  rw [zE_k7 (w := zsI w 627 a v) h]
  simp [zsI, zI, zP, z2, va_up]
theorem zst_8 (h : zK w a = 8) (j : Nat) (x : Int32) : zE cy (zsR w a j x) a = .inl (cy 0, zN w a, .inl (va_up (zR w a) j x)) := by
  rw [zE_k8 (w := zsR w a j x) h]
  have e : zR (zsR w a j x) a = va_up (zR w a) j x := by simp [zR, zsR, z2]
  rw [e]
  rfl
theorem zst_15 (h : zK w a = 15) (j : Nat) (x : Int32) : zE cy (zsR w a j x) a = .inl (cy 0, zN w a, .inl (va_up (zR w a) j x)) := by
  rw [zE_k15 (w := zsR w a j x) h]
  have e : zR (zsR w a j x) a = va_up (zR w a) j x := by simp [zR, zsR, z2]
  rw [e]
  rfl
theorem zst_9 (h : zK w a = 9) (j : Nat) (x : Int32) : zE cy (zsR w a j x) a = .inl (cy 1, zN w a, .inl (va_up (zR w a) j x)) := by
  rw [zE_k9 (w := zsR w a j x) h]
  have e : zR (zsR w a j x) a = va_up (zR w a) j x := by simp [zR, zsR, z2]
  rw [e]
  rfl
theorem zst_14 (h : zK w a = 14) (j : Nat) (x : Int64) : zE cy (zsJ w a j x) a = .inl (cy 6, zN w a, .inr (.inl (va_up (zJ w a) j x))) := by
  rw [zE_k14 (w := zsJ w a j x) h]
  have e : zJ (zsJ w a j x) a = va_up (zJ w a) j x := by simp [zJ, zsJ, z2]
  rw [e]
  rfl
theorem zst_10 (h : zK w a = 10) (j : Nat) (x : Option Nat) : zE cy (zsQ w a j x) a = .inl (cy 2, zN w a, .inr (.inr (.inr (.inr (va_up (zQ w a) j x))))) := by
  rw [zE_k10 (w := zsQ w a j x) h]
  have e : zQ (zsQ w a j x) a = va_up (zQ w a) j x := by simp [zQ, zsQ, z2]
  rw [e]
  rfl
theorem zst_11 (h : zK w a = 11) (j : Nat) (x : Option Nat) : zE cy (zsQ w a j x) a = .inl (cy 3, zN w a, .inr (.inr (.inr (.inr (va_up (zQ w a) j x))))) := by
  rw [zE_k11 (w := zsQ w a j x) h]
  have e : zQ (zsQ w a j x) a = va_up (zQ w a) j x := by simp [zQ, zsQ, z2]
  rw [e]
  rfl
theorem zst_12 (h : zK w a = 12) (j : Nat) (x : Option Nat) : zE cy (zsQ w a j x) a = .inl (cy 4, zN w a, .inr (.inr (.inr (.inr (va_up (zQ w a) j x))))) := by
  rw [zE_k12 (w := zsQ w a j x) h]
  have e : zQ (zsQ w a j x) a = va_up (zQ w a) j x := by simp [zQ, zsQ, z2]
  rw [e]
  rfl
theorem zst_13 (h : zK w a = 13) (j : Nat) (x : Option Nat) : zE cy (zsQ w a j x) a = .inl (cy 5, zN w a, .inr (.inr (.inr (.inr (va_up (zQ w a) j x))))) := by
  rw [zE_k13 (w := zsQ w a j x) h]
  have e : zQ (zsQ w a j x) a = va_up (zQ w a) j x := by simp [zQ, zsQ, z2]
  rw [e]
  rfl
theorem znew_0 (q : Nat) : zE cy (zNew w q 1 0) q = .inr (0, [.int 0, .int 0, .int 0, .int 0]) := by
  have h : zK (zNew w q 1 0) q = 1 := by simp [zNew, zK, va_up]
  rw [zE_k1 h]
  simp [zNew, zI, zP, va_rf]
theorem zdf_0 : ∀ j, j < 4 → defaultValue (tyX0 j) = vp_V [.int 0, .int 0, .int 0, .int 0] j := by
  intro j hj
  rcases (show j = 0 ∨ j = 1 ∨ j = 2 ∨ j = 3 by omega) with rfl | rfl | rfl | rfl <;> rfl
theorem znew_1 (q : Nat) : zE cy (zNew w q 2 0) q = .inr (1, [.int 0, .int 0, .null, .int 0, .int 0, .int 0]) := by
  have h : zK (zNew w q 2 0) q = 2 := by simp [zNew, zK, va_up]
  rw [zE_k2 h]
  simp [zNew, zI, zP, va_rf]
theorem zdf_1 : ∀ j, j < 6 → defaultValue (tyX1 j) = vp_V [.int 0, .int 0, .null, .int 0, .int 0, .int 0] j := by
  intro j hj
  rcases (show j = 0 ∨ j = 1 ∨ j = 2 ∨ j = 3 ∨ j = 4 ∨ j = 5 by omega) with rfl | rfl | rfl | rfl | rfl | rfl <;> rfl
theorem znew_2 (q : Nat) : zE cy (zNew w q 3 0) q = .inr (2, [.int 0, .int 0, .int 0, .int 0, .int 0, .int 0, .int 0, .null, .int 0, .int 0, .null, .null, .int 0, .int 0]) := by
  have h : zK (zNew w q 3 0) q = 3 := by simp [zNew, zK, va_up]
  rw [zE_k3 h]
  simp [zNew, zI, zP, va_rf]
theorem zdf_2 : ∀ j, j < 14 → defaultValue (tyX2 j) = vp_V [.int 0, .int 0, .int 0, .int 0, .int 0, .int 0, .int 0, .null, .int 0, .int 0, .null, .null, .int 0, .int 0] j := by
  intro j hj
  rcases (show j = 0 ∨ j = 1 ∨ j = 2 ∨ j = 3 ∨ j = 4 ∨ j = 5 ∨ j = 6 ∨ j = 7 ∨ j = 8 ∨ j = 9 ∨ j = 10 ∨ j = 11 ∨ j = 12 ∨ j = 13 by omega) with rfl | rfl | rfl | rfl | rfl | rfl | rfl | rfl | rfl | rfl | rfl | rfl | rfl | rfl <;> rfl
theorem znew_3 (q : Nat) : zE cy (zNew w q 4 0) q = .inr (3, [.null, .int 0, .int 0, .int 0]) := by
  have h : zK (zNew w q 4 0) q = 4 := by simp [zNew, zK, va_up]
  rw [zE_k4 h]
  simp [zNew, zI, zP, va_rf]
theorem zdf_3 : ∀ j, j < 4 → defaultValue (tyX3 j) = vp_V [.null, .int 0, .int 0, .int 0] j := by
  intro j hj
  rcases (show j = 0 ∨ j = 1 ∨ j = 2 ∨ j = 3 by omega) with rfl | rfl | rfl | rfl <;> rfl
theorem znew_4 (q : Nat) : zE cy (zNew w q 5 0) q = .inr (4, [.int 0, .int 0]) := by
  have h : zK (zNew w q 5 0) q = 5 := by simp [zNew, zK, va_up]
  rw [zE_k5 h]
  simp [zNew, zI, zP, va_rf]
theorem zdf_4 : ∀ j, j < 2 → defaultValue (tyX4 j) = vp_V [.int 0, .int 0] j := by
  intro j hj
  rcases (show j = 0 ∨ j = 1 by omega) with rfl | rfl <;> rfl
theorem znew_5 (q : Nat) : zE cy (zNew w q 6 0) q = .inr (5, [.null, .null, .null, .int 0, .int 0, .int 0]) := by
  have h : zK (zNew w q 6 0) q = 6 := by simp [zNew, zK, va_up]
  rw [zE_k6 h]
  simp [zNew, zI, zP, va_rf]
theorem zdf_5 : ∀ j, j < 6 → defaultValue (tyX5 j) = vp_V [.null, .null, .null, .int 0, .int 0, .int 0] j := by
  intro j hj
  rcases (show j = 0 ∨ j = 1 ∨ j = 2 ∨ j = 3 ∨ j = 4 ∨ j = 5 by omega) with rfl | rfl | rfl | rfl | rfl | rfl <;> rfl
theorem znew_6 (q : Nat) : zE cy (zNew w q 7 0) q = .inr (6, [.int 0, .int 0, .null, .null, .null, .null, .null, .null, .null, .null, .null, .null, .null, .null, .null, .null, .null, .null, .null, .null, .null, .null, .int 0, .null, .null, .null, .null, .int 0]) := by
  have h : zK (zNew w q 7 0) q = 7 := by simp [zNew, zK, va_up]
  rw [zE_k7 h]
  simp [zNew, zI, zP, va_rf]
theorem zdf_6 : ∀ j, j < 28 → defaultValue (tyX6 j) = vp_V [.int 0, .int 0, .null, .null, .null, .null, .null, .null, .null, .null, .null, .null, .null, .null, .null, .null, .null, .null, .null, .null, .null, .null, .int 0, .null, .null, .null, .null, .int 0] j := by
  intro j hj
  rcases (show j = 0 ∨ j = 1 ∨ j = 2 ∨ j = 3 ∨ j = 4 ∨ j = 5 ∨ j = 6 ∨ j = 7 ∨ j = 8 ∨ j = 9 ∨ j = 10 ∨ j = 11 ∨ j = 12 ∨ j = 13 ∨ j = 14 ∨ j = 15 ∨ j = 16 ∨ j = 17 ∨ j = 18 ∨ j = 19 ∨ j = 20 ∨ j = 21 ∨ j = 22 ∨ j = 23 ∨ j = 24 ∨ j = 25 ∨ j = 26 ∨ j = 27 by omega) with rfl | rfl | rfl | rfl | rfl | rfl | rfl | rfl | rfl | rfl | rfl | rfl | rfl | rfl | rfl | rfl | rfl | rfl | rfl | rfl | rfl | rfl | rfl | rfl | rfl | rfl | rfl | rfl <;> rfl
theorem znew_a8 (q n : Nat) : zE cy (zNew w q 8 n) q = .inl (cy 0, n, .inl (fun _ => 0)) := by
  have h : zK (zNew w q 8 n) q = 8 := by simp [zNew, zK, va_up]
  rw [zE_k8 h]
  have e1 : zN (zNew w q 8 n) q = n := by simp [zNew, zN, va_up]
  have e2 : zR (zNew w q 8 n) q = fun _ => 0 := by funext i; simp [zNew, zR]
  rw [e1, e2]
theorem znew_a15 (q n : Nat) : zE cy (zNew w q 15 n) q = .inl (cy 0, n, .inl (fun _ => 0)) := by
  have h : zK (zNew w q 15 n) q = 15 := by simp [zNew, zK, va_up]
  rw [zE_k15 h]
  have e1 : zN (zNew w q 15 n) q = n := by simp [zNew, zN, va_up]
  have e2 : zR (zNew w q 15 n) q = fun _ => 0 := by funext i; simp [zNew, zR]
  rw [e1, e2]
theorem znew_a9 (q n : Nat) : zE cy (zNew w q 9 n) q = .inl (cy 1, n, .inl (fun _ => 0)) := by
  have h : zK (zNew w q 9 n) q = 9 := by simp [zNew, zK, va_up]
  rw [zE_k9 h]
  have e1 : zN (zNew w q 9 n) q = n := by simp [zNew, zN, va_up]
  have e2 : zR (zNew w q 9 n) q = fun _ => 0 := by funext i; simp [zNew, zR]
  rw [e1, e2]
theorem znew_a14 (q n : Nat) : zE cy (zNew w q 14 n) q = .inl (cy 6, n, .inr (.inl (fun _ => 0))) := by
  have h : zK (zNew w q 14 n) q = 14 := by simp [zNew, zK, va_up]
  rw [zE_k14 h]
  have e1 : zN (zNew w q 14 n) q = n := by simp [zNew, zN, va_up]
  have e2 : zJ (zNew w q 14 n) q = fun _ => 0 := by funext i; simp [zNew, zJ]
  rw [e1, e2]
theorem znew_a10 (q n : Nat) : zE cy (zNew w q 10 n) q = .inl (cy 2, n, .inr (.inr (.inr (.inr (fun _ => none))))) := by
  have h : zK (zNew w q 10 n) q = 10 := by simp [zNew, zK, va_up]
  rw [zE_k10 h]
  have e1 : zN (zNew w q 10 n) q = n := by simp [zNew, zN, va_up]
  have e2 : zQ (zNew w q 10 n) q = fun _ => none := by funext i; simp [zNew, zQ]
  rw [e1, e2]
theorem znew_a11 (q n : Nat) : zE cy (zNew w q 11 n) q = .inl (cy 3, n, .inr (.inr (.inr (.inr (fun _ => none))))) := by
  have h : zK (zNew w q 11 n) q = 11 := by simp [zNew, zK, va_up]
  rw [zE_k11 h]
  have e1 : zN (zNew w q 11 n) q = n := by simp [zNew, zN, va_up]
  have e2 : zQ (zNew w q 11 n) q = fun _ => none := by funext i; simp [zNew, zQ]
  rw [e1, e2]
theorem znew_a12 (q n : Nat) : zE cy (zNew w q 12 n) q = .inl (cy 4, n, .inr (.inr (.inr (.inr (fun _ => none))))) := by
  have h : zK (zNew w q 12 n) q = 12 := by simp [zNew, zK, va_up]
  rw [zE_k12 h]
  have e1 : zN (zNew w q 12 n) q = n := by simp [zNew, zN, va_up]
  have e2 : zQ (zNew w q 12 n) q = fun _ => none := by funext i; simp [zNew, zQ]
  rw [e1, e2]
theorem znew_a13 (q n : Nat) : zE cy (zNew w q 13 n) q = .inl (cy 5, n, .inr (.inr (.inr (.inr (fun _ => none))))) := by
  have h : zK (zNew w q 13 n) q = 13 := by simp [zNew, zK, va_up]
  rw [zE_k13 h]
  have e1 : zN (zNew w q 13 n) q = n := by simp [zNew, zN, va_up]
  have e2 : zQ (zNew w q 13 n) q = fun _ => none := by funext i; simp [zNew, zQ]
  rw [e1, e2]
/-- an old address in a world with a new one -/
theorem zNew_old {q k n b : Nat} (hq : zK w q = 0) (hb : zK w b ≠ 0) : b ≠ q ∧ zK (zNew w q k n) b = zK w b ∧ (∀ g, zI (zNew w q k n) g b = zI w g b) ∧ (∀ g, zP (zNew w q k n) g b = zP w g b) ∧ zN (zNew w q k n) b = zN w b ∧ zR (zNew w q k n) b = zR w b ∧ zQ (zNew w q k n) b = zQ w b ∧ zJ (zNew w q k n) b = zJ w b := by
  have h : b ≠ q := fun e => hb (by rw [e]; exact hq)
  refine ⟨h, ?_, fun g => ?_, fun g => ?_, ?_, ?_, ?_, ?_⟩ <;> simp [zNew, zK, zI, zP, zN, zR, zQ, zJ, va_up, h]
theorem zNew_new {q k n : Nat} : zK (zNew w q k n) q = k ∧ (∀ g, zI (zNew w q k n) g q = 0) ∧ (∀ g, zP (zNew w q k n) g q = none) ∧ zN (zNew w q k n) q = n ∧ (∀ i, zR (zNew w q k n) q i = 0) ∧ (∀ i, zQ (zNew w q k n) q i = none) ∧ (∀ i, zJ (zNew w q k n) q i = 0) := by
  refine ⟨?_, fun g => ?_, fun g => ?_, ?_, fun i => ?_, fun i => ?_, fun i => ?_⟩ <;> simp [zNew, zK, zI, zP, zN, zR, zQ, zJ, va_up]
end CELLS
end
section
/-! THE REFERENCE'S STATE: B f j is place j of its field f (a number's is place 0). -/
def mArr (f : Nat) : Prop := 2 ≤ f ∧ f ≤ 26 ∧ f ≠ 22
def mNum (f : Nat) : Prop := f = 0 ∨ f = 1 ∨ f = 22 ∨ f = 27
def mLen (f : Nat) : Nat := if f = 14 then 40 else if 17 ≤ f ∧ f ≤ 20 then 500 else if f = 21 then 3 else if 23 ≤ f then 8 else 10
def mKd (f : Nat) : Nat := if f = 2 ∨ f = 19 ∨ f = 20 then 9 else 8
def mRep (w : zW) (y : Nat) (r : Nat → Nat) (B : Nat → Nat → Int32) : Prop := zK w y = 7 ∧ (∀ f, mNum f → zI w (600 + f) y = B f 0) ∧ (∀ f, mArr f → zP w (600 + f) y = some (r f) ∧ zK w (r f) = mKd f ∧ zN w (r f) = mLen f ∧ zR w (r f) = B f) ∧ (∀ f g, mArr f → mArr g → r f = r g → f = g)
/-- what the reference's calls leave as it was -/
def mFr (w0 w : zW) : Prop := (∀ b, zK w b = zK w0 b) ∧ (∀ g b, zP w g b = zP w0 g b) ∧ (∀ b, zN w b = zN w0 b) ∧ (∀ b, zQ w b = zQ w0 b) ∧ (∀ b, zJ w b = zJ w0 b) ∧ (∀ g b, g < 600 → zI w g b = zI w0 g b) ∧ (∀ b, zK w0 b ≠ 8 → zK w0 b ≠ 9 → zR w b = zR w0 b)
def mH (D : va_G) (cy : Nat → ClassId) (base : Nat) (w0 : zW) (y : Nat) (r : Nat → Nat) (B : Nat → Nat → Int32) (H : Heap) : Prop := ∃ w : zW, zH D cy base w H ∧ mRep w y r B ∧ mFr w0 w
theorem mFr_rf (w : zW) : mFr w w := ⟨fun _ => rfl, fun _ _ => rfl, fun _ => rfl, fun _ => rfl, fun _ => rfl, fun _ _ _ => rfl, fun _ _ _ => rfl⟩
theorem mFr_I {w0 w : zW} (h : mFr w0 w) {g : Nat} (hg : 600 ≤ g) (a : Nat) (v : Int32) : mFr w0 (zsI w g a v) := by
  obtain ⟨h1, h2, h3, h4, h5, h6, h7⟩ := h
  refine ⟨h1, h2, h3, h4, h5, fun g' b hg' => ?_, h7⟩
  rw [← h6 g' b hg']
  exact congrFun (z2_ne1 (zI w) a v (by omega : g' ≠ g)) b
theorem mFr_R {w0 w : zW} (h : mFr w0 w) {a : Nat} (ha : zK w a = 8 ∨ zK w a = 9) (j : Nat) (v : Int32) : mFr w0 (zsR w a j v) := by
  obtain ⟨h1, h2, h3, h4, h5, h6, h7⟩ := h
  refine ⟨h1, h2, h3, h4, h5, h6, fun b hb8 hb9 => ?_⟩
  rw [← h7 b hb8 hb9]
  refine z2_ne1 (zR w) j v (fun e => ?_)
  rw [e, ← h1 a] at hb8 hb9
  rcases ha with ha | ha
  · exact hb8 ha
  · exact hb9 ha
theorem mKd_89 (f : Nat) : mKd f = 8 ∨ mKd f = 9 := by unfold mKd; split <;> simp
theorem mRep_num {w : zW} {y : Nat} {r : Nat → Nat} {B : Nat → Nat → Int32} (h : mRep w y r B) {f : Nat} (hf : mNum f) (v : Int32) : mRep (zsI w (600 + f) y v) y r (z2 B f 0 v) := by
  obtain ⟨h1, h2, h3, h4⟩ := h
  refine ⟨h1, fun g hg => ?_, fun g hg => ?_, h4⟩
  · show z2 (zI w) (600 + f) y v (600 + g) y = _
    by_cases e : g = f
    · subst e; rw [z2_same, z2_same]
    · rw [z2_ne1 _ _ _ (by omega : 600 + g ≠ 600 + f), z2_ne1 _ _ _ e]; exact h2 g hg
  · have e : g ≠ f := by unfold mArr at hg; unfold mNum at hf; omega
    rw [z2_ne1 _ _ _ e]
    exact h3 g hg
theorem mRep_arr {w : zW} {y : Nat} {r : Nat → Nat} {B : Nat → Nat → Int32} (h : mRep w y r B) {f : Nat} (hf : mArr f) (j : Nat) (v : Int32) : mRep (zsR w (r f) j v) y r (z2 B f j v) := by
  obtain ⟨h1, h2, h3, h4⟩ := h
  refine ⟨h1, fun g hg => ?_, fun g hg => ?_, h4⟩
  · have e : g ≠ f := by unfold mArr at hf; unfold mNum at hg; omega
    rw [z2_ne1 _ _ _ e]
    exact h2 g hg
  · obtain ⟨q1, q2, q3, q4⟩ := h3 g hg
    refine ⟨q1, q2, q3, ?_⟩
    show z2 (zR w) (r f) j v (r g) = _
    by_cases e : g = f
    · subst e; unfold z2; rw [if_pos rfl, if_pos rfl, q4]
    · rw [z2_ne1 _ _ _ (fun z => e (h4 g f hg hf z)), z2_ne1 _ _ _ e]; exact q4
section MROWS
variable {p : Program} {l : Launch} {e : Env} {R : Room} {s : State} {m : MethodId} {args : Array Value} {below : List Frame} {meth : Method} {c : Code} {H : Heap} {locs : List Loc} {cells slots : Nat} {Q : State → Prop} {cc : ByteArray} {pc : Nat} {ls : Array Slot} {rest : List Value} {D : va_G} {cy : Nat → ClassId} {base : Nat} {w0 : zW} {H0 : Heap} {y : Nat} {r : Nat → Nat} {B : Nat → Nat → Int32}
theorem m_recv (hA : zA D cy base s) (hH : mH D cy base w0 y r B H) : ∃ cell : Cell, H[y]? = some cell ∧ cell.vm.isStatics = false ∧ s.vm.findClass RX6 = some cell.cls := by
  obtain ⟨w, hH, hM, -⟩ := hH
  exact z_recv hA hH (by rw [hM.1]; decide) (zE_k7 hM.1) (q := (RX6, TX6, 28)) rfl
theorem m_num {f : Nat} (hf : mNum f) (hx : p.tables.exec = Jvm.exec) (hb : c.code = cc) {index : Nat} {Ts : List Cond} (hts : ∀ w ∈ Ts, w.before args s = true) (hin : ∀ w ∈ wsX60, w ∈ Ts) (hown : s.vm.findClass RX6 = some m.cls) (hA : zA D cy base s) (hH : mH D cy base w0 y r B H) (hlink : (Cond.fieldLink RX6 index RX6 (TX6 f).2.1 (TX6 f).2.2.1).before args s = true) {v : Int32} (hv : B f 0 = v) (hdg : decode cc pc = .ok (.getfield index, 3))
    (kk : W p l e R s m args below meth c H locs cells slots Q (F0 m (pc + 3) ls (.int v :: rest))) : W p l e R s m args below meth c H locs cells slots Q (F0 m pc ls (.ref y :: rest)) := by
  obtain ⟨w, hH, hM, -⟩ := hH
  have e := (hM.2.1 f hf).trans hv
  rw [← e] at kk
  rcases hf with rfl | rfl | rfl | rfl
  · exact z_get hx hb hts hin hown hA hH (by rw [hM.1]; decide) (zE_k7 hM.1) (N := 28) rfl 0 (by decide) hlink (fun _ h => h) rfl hdg kk
  · exact z_get hx hb hts hin hown hA hH (by rw [hM.1]; decide) (zE_k7 hM.1) (N := 28) rfl 1 (by decide) hlink (fun _ h => h) rfl hdg kk
  · exact z_get hx hb hts hin hown hA hH (by rw [hM.1]; decide) (zE_k7 hM.1) (N := 28) rfl 22 (by decide) hlink (fun _ h => h) rfl hdg kk
  · exact z_get hx hb hts hin hown hA hH (by rw [hM.1]; decide) (zE_k7 hM.1) (N := 28) rfl 27 (by decide) hlink (fun _ h => h) rfl hdg kk
theorem m_fields {i : Nat → Int32} {q : Nat → Option Nat} {f : Nat} (hf : mArr f) : (zF6 i q)[f]? = some (va_rf (q (600 + f))) := by
  obtain ⟨h1, h2, h3⟩ := hf
  rcases (show f = 2 ∨ f = 3 ∨ f = 4 ∨ f = 5 ∨ f = 6 ∨ f = 7 ∨ f = 8 ∨ f = 9 ∨ f = 10 ∨ f = 11 ∨ f = 12 ∨ f = 13 ∨ f = 14 ∨ f = 15 ∨ f = 16 ∨ f = 17 ∨ f = 18 ∨ f = 19 ∨ f = 20 ∨ f = 21 ∨ f = 23 ∨ f = 24 ∨ f = 25 ∨ f = 26 by omega) with rfl | rfl | rfl | rfl | rfl | rfl | rfl | rfl | rfl | rfl | rfl | rfl | rfl | rfl | rfl | rfl | rfl | rfl | rfl | rfl | rfl | rfl | rfl | rfl <;> rfl
theorem m_arr {f : Nat} (hf : mArr f) (hx : p.tables.exec = Jvm.exec) (hb : c.code = cc) {index : Nat} {Ts : List Cond} (hts : ∀ w ∈ Ts, w.before args s = true) (hin : ∀ w ∈ wsX60, w ∈ Ts) (hown : s.vm.findClass RX6 = some m.cls) (hA : zA D cy base s) (hH : mH D cy base w0 y r B H) (hlink : (Cond.fieldLink RX6 index RX6 (TX6 f).2.1 (TX6 f).2.2.1).before args s = true) (hsame : (TX6 f).1 = RX6) (hdg : decode cc pc = .ok (.getfield index, 3))
    (kk : W p l e R s m args below meth c H locs cells slots Q (F0 m (pc + 3) ls (.ref (r f) :: rest))) : W p l e R s m args below meth c H locs cells slots Q (F0 m pc ls (.ref y :: rest)) := by
  obtain ⟨w, hH, hM, -⟩ := hH
  have e := (hM.2.2.1 f hf).1
  have h27 : f < 28 := by unfold mArr at hf; omega
  exact z_get hx hb hts hin hown hA hH (by rw [hM.1]; decide) (zE_k7 hM.1) (N := 28) rfl f h27 hlink (fun x h => by rw [hsame] at h; exact h) ((m_fields hf).trans (congrArg (fun z => some (va_rf z)) e)) hdg kk
theorem m_at {w : zW} (hM : mRep w y r B) {f : Nat} (hf : mArr f) : (mKd f = 8 → zE cy w (r f) = .inl (cy 0, mLen f, .inl (B f))) ∧ (mKd f = 9 → zE cy w (r f) = .inl (cy 1, mLen f, .inl (B f))) := by
  obtain ⟨q1, q2, q3, q4⟩ := hM.2.2.1 f hf
  refine ⟨fun h => ?_, fun h => ?_⟩
  · rw [zE_k8 (q2.trans h), q3, q4]
  · rw [zE_k9 (q2.trans h), q3, q4]
theorem mLen_lt (f : Nat) : mLen f < 2 ^ 31 := by unfold mLen; repeat' split
                                                  all_goals decide
theorem m_K0 {w : zW} (hM : mRep w y r B) {f : Nat} (hf : mArr f) : zK w (r f) ≠ 0 := by
  rw [(hM.2.2.1 f hf).2.1]
  rcases mKd_89 f with h | h <;> rw [h] <;> decide
theorem m_iald {f : Nat} (hf : mArr f) (hk : mKd f = 8) (hx : p.tables.exec = Jvm.exec) (hb : c.code = cc) (hA : zA D cy base s) (hH : mH D cy base w0 y r B H) {i v : Int32} (j : Nat) (hi : i = nI j) (hj : j < mLen f) (hv : B f j = v) (hdg : decode cc pc = .ok (.iaload, 1))
    (kk : W p l e R s m args below meth c H locs cells slots Q (F0 m (pc + 1) ls (.int v :: rest))) : W p l e R s m args below meth c H locs cells slots Q (F0 m pc ls (.int i :: .ref (r f) :: rest)) := by
  subst hv
  obtain ⟨w, hH, hM, -⟩ := hH
  exact z_iald hx hb hA hH (m_K0 hM hf) ((m_at hM hf).1 hk) j hi hj (mLen_lt f) hdg kk
theorem m_zald {f : Nat} (hf : mArr f) (hk : mKd f = 9) (hx : p.tables.exec = Jvm.exec) (hb : c.code = cc) (hA : zA D cy base s) (hH : mH D cy base w0 y r B H) {i v : Int32} (j : Nat) (hi : i = nI j) (hj : j < mLen f) (hv : B f j = v) (hdg : decode cc pc = .ok (.baload, 1))
    (kk : W p l e R s m args below meth c H locs cells slots Q (F0 m (pc + 1) ls (.int v :: rest))) : W p l e R s m args below meth c H locs cells slots Q (F0 m pc ls (.int i :: .ref (r f) :: rest)) := by
  subst hv
  obtain ⟨w, hH, hM, -⟩ := hH
  exact z_zald hx hb hA hH (m_K0 hM hf) ((m_at hM hf).2 hk) j hi hj (mLen_lt f) hdg kk
theorem m_iast {f : Nat} (hf : mArr f) (hk : mKd f = 8) (hx : p.tables.exec = Jvm.exec) (hb : c.code = cc) (hA : zA D cy base s) (hH : mH D cy base w0 y r B H) (hS : va_S (fun q : Nat => base ≤ q) H0 H locs) {i x : Int32} (j : Nat) (hi : i = nI j) (hj : j < mLen f) (hdg : decode cc pc = .ok (.iastore, 1))
    (kk : ∀ (H1 : Heap) (locs1 : List Loc), mH D cy base w0 y r (z2 B f j x) H1 → va_S (fun q : Nat => base ≤ q) H0 H1 locs1 → W p l e R s m args below meth c H1 locs1 cells slots Q (F0 m (pc + 1) ls rest)) : W p l e R s m args below meth c H locs cells slots Q (F0 m pc ls (.int x :: .int i :: .ref (r f) :: rest)) := by
  obtain ⟨w, hH, hM, hF⟩ := hH
  have hk0 := (hM.2.2.1 f hf).2.1
  have h9 := (hM.2.2.1 f hf).2.2
  refine z_iast hx hb hA hH hS (m_K0 hM hf) ((m_at hM hf).1 hk) j hi hj (mLen_lt f) (w' := zsR w (r f) j x) (by rw [zst_8 (hk0.trans hk), h9.1, h9.2]) (zsR_oth w (r f) j x) (fun _ => rfl) hdg (fun H1 locs1 hH1 hS1 => kk H1 locs1 ⟨_, hH1, mRep_arr hM hf j x, mFr_R hF (by rw [hk0]; exact mKd_89 f) j x⟩ hS1)
theorem m_zast {f : Nat} (hf : mArr f) (hk : mKd f = 9) (hx : p.tables.exec = Jvm.exec) (hb : c.code = cc) (hA : zA D cy base s) (hH : mH D cy base w0 y r B H) (hS : va_S (fun q : Nat => base ≤ q) H0 H locs) {i x : Int32} (hx1 : vp_nar .boolean x = x) (j : Nat) (hi : i = nI j) (hj : j < mLen f) (hdg : decode cc pc = .ok (.bastore, 1))
    (kk : ∀ (H1 : Heap) (locs1 : List Loc), mH D cy base w0 y r (z2 B f j x) H1 → va_S (fun q : Nat => base ≤ q) H0 H1 locs1 → W p l e R s m args below meth c H1 locs1 cells slots Q (F0 m (pc + 1) ls rest)) : W p l e R s m args below meth c H locs cells slots Q (F0 m pc ls (.int x :: .int i :: .ref (r f) :: rest)) := by
  obtain ⟨w, hH, hM, hF⟩ := hH
  have hk0 := (hM.2.2.1 f hf).2.1
  have h9 := (hM.2.2.1 f hf).2.2
  refine z_zast hx hb hA hH hS (m_K0 hM hf) ((m_at hM hf).2 hk) j hi hj (mLen_lt f) hx1 (w' := zsR w (r f) j x) (by rw [zst_9 (hk0.trans hk), h9.1, h9.2]) (zsR_oth w (r f) j x) (fun _ => rfl) hdg (fun H1 locs1 hH1 hS1 => kk H1 locs1 ⟨_, hH1, mRep_arr hM hf j x, mFr_R hF (by rw [hk0]; exact mKd_89 f) j x⟩ hS1)
theorem m_put {f : Nat} (hf : mNum f) (hx : p.tables.exec = Jvm.exec) (hb : c.code = cc) {index : Nat} {Ts : List Cond} (hts : ∀ w ∈ Ts, w.before args s = true) (hin : ∀ w ∈ wsX60, w ∈ Ts) (hown : s.vm.findClass RX6 = some m.cls) (hA : zA D cy base s) (hH : mH D cy base w0 y r B H) (hS : va_S (fun q : Nat => base ≤ q) H0 H locs) {v : Int32} (hlink : (Cond.fieldLink RX6 index RX6 (TX6 f).2.1 (TX6 f).2.2.1).before args s = true) (hdg : decode cc pc = .ok (.putfield index, 3))
    (kk : ∀ (H1 : Heap) (locs1 : List Loc), mH D cy base w0 y r (z2 B f 0 v) H1 → va_S (fun q : Nat => base ≤ q) H0 H1 locs1 → W p l e R s m args below meth c H1 locs1 cells slots Q (F0 m (pc + 3) ls rest)) : W p l e R s m args below meth c H locs cells slots Q (F0 m pc ls (.int v :: .ref y :: rest)) := by
  obtain ⟨w, hH, hM, hF⟩ := hH
  have kk1 : ∀ (H1 : Heap) (locs1 : List Loc), zH D cy base (zsI w (600 + f) y v) H1 → va_S (fun q : Nat => base ≤ q) H0 H1 locs1 → W p l e R s m args below meth c H1 locs1 cells slots Q (F0 m (pc + 3) ls rest) :=
    fun H1 locs1 hH1 hS1 => kk H1 locs1 ⟨_, hH1, mRep_num hM hf v, mFr_I hF (by omega) y v⟩ hS1
  rcases hf with rfl | rfl | rfl | rfl
  · exact z_put hx hb hts hin tyX6 tyX6_ok nmX6 hown hA hH hS (by rw [hM.1]; decide) (zE_k7 hM.1) (N := 28) rfl 0 (by decide) hlink (fun _ h => h) rfl (ty := .int) (by decide +kernel) rfl rfl (Nat.le_of_ble_eq_true rfl) (zs_600 hM.1 v) (zsI_oth w 600 y v) (fun _ => rfl) hdg kk1
  · exact z_put hx hb hts hin tyX6 tyX6_ok nmX6 hown hA hH hS (by rw [hM.1]; decide) (zE_k7 hM.1) (N := 28) rfl 1 (by decide) hlink (fun _ h => h) rfl (ty := .int) (by decide +kernel) rfl rfl (Nat.le_of_ble_eq_true rfl) (zs_601 hM.1 v) (zsI_oth w 601 y v) (fun _ => rfl) hdg kk1
  · exact z_put hx hb hts hin tyX6 tyX6_ok nmX6 hown hA hH hS (by rw [hM.1]; decide) (zE_k7 hM.1) (N := 28) rfl 22 (by decide) hlink (fun _ h => h) rfl (ty := .int) (by decide +kernel) rfl rfl (Nat.le_of_ble_eq_true rfl) (zs_622 hM.1 v) (zsI_oth w 622 y v) (fun _ => rfl) hdg kk1
  · exact z_put hx hb hts hin tyX6 tyX6_ok nmX6 hown hA hH hS (by rw [hM.1]; decide) (zE_k7 hM.1) (N := 28) rfl 27 (by decide) hlink (fun _ h => h) rfl (ty := .int) (by decide +kernel) rfl rfl (Nat.le_of_ble_eq_true rfl) (zs_627 hM.1 v) (zsI_oth w 627 y v) (fun _ => rfl) hdg kk1
end MROWS
end
section
theorem zk0 {w : zW} {a k : Nat} (h : zK w a = k) (hk : k ≠ 0) : zK w a ≠ 0 := by rw [h]; exact hk
theorem zEn {cy : Nat → ClassId} {w w' : zW} {a b n : Nat} {cA : ClassId} {f : (Nat → Int32) ⊕ (Nat → Int64) ⊕ (Nat → UInt32) ⊕ (Nat → UInt64) ⊕ (Nat → Option Nat)} (he : zE cy w a = .inl (cA, zN w' b, f)) (hn : zN w' b = n) : zE cy w a = .inl (cA, n, f) := by rw [he, hn]
theorem zR_same {w : zW} {a j : Nat} {v : Int32} : zR (zsR w a j v) a j = v := z2_same _ _ _ _
/-! THE OPERATIONS, on the reference's state -/
abbrev mB : Type := Nat → Nat → Int32
def vLies (v a b : Int32) : Bool := decide (¬ v < a) && decide (¬ b < v)
def ix (x : Int32) : Nat := x.toNatClampNeg
theorem ix_nI {n : Nat} (h : n < 2 ^ 31) : ix (nI n) = n := nI_clamp h
def nP (B : mB) : Nat := ix (B 1 0)
def nO (B : mB) : Nat := ix (B 22 0)
def oc (B : mB) (i : Nat) : Nat := ix (B 10 i)
def pp (B : mB) (i : Nat) : Nat := ix (B 9 i)
def ox (B : mB) (i : Nat) : Nat := ix (B 11 i)
def kx (B : mB) (j : Nat) : Nat := ix (B 24 j)
def sx (B : mB) (j : Nat) : Nat := ix (B 23 j)
/-- the numbers are places -/
def mInv (B : mB) : Prop := (nP B ≤ 10 ∧ B 1 0 = nI (nP B)) ∧ (nO B ≤ 8 ∧ B 22 0 = nI (nO B)) ∧
  (∀ i, i < nP B → B 10 i = nI (oc B i) ∧ B 9 i = nI (pp B i) ∧ oc B i ≤ pp B i ∧ pp B i ≤ 50 ∧ (B 11 i = -1 ∨ (B 11 i = nI (ox B i) ∧ ox B i < nO B))) ∧
  (∀ j, j < nO B → B 24 j = nI (kx B j) ∧ kx B j < 3 ∧ B 23 j = nI (sx B j) ∧ sx B j < 4)
def vP (B : mB) (its : Int32) : Bool := vLies its 0 (B 1 0 - 1)
def vO (B : mB) (its : Int32) : Bool := vLies its 0 (B 22 0 - 1)
theorem vLies_nat {v : Int32} {n : Nat} (hn : n < 2 ^ 30) : vLies v 0 (nI n - 1) = true ↔ ∃ i, i < n ∧ v = nI i := by
  have h1 : (nI n - 1).toInt = (n : Int) - 1 := pk_sub_toInt (b := 1) hn (by decide)
  unfold vLies
  simp only [Bool.and_eq_true, decide_eq_true_eq, Int32.lt_iff_toInt_lt, h1, Int32.toInt_zero]
  constructor
  · intro ⟨h2, h3⟩
    obtain ⟨j, hj, rfl⟩ := nI_of (x := v) (by rw [Int32.lt_iff_toInt_lt, Int32.toInt_zero]; exact h2)
    rw [nI_toInt hj] at h3
    exact ⟨j, by omega, rfl⟩
  · intro ⟨i, hi, e⟩
    subst e
    rw [nI_toInt (by omega)]
    omega
theorem vP_iff {B : mB} (h : mInv B) {its : Int32} : vP B its = true ↔ ∃ i, i < nP B ∧ its = nI i := by
  unfold vP; rw [h.1.2]; exact vLies_nat (by have := h.1.1; omega)
theorem vO_iff {B : mB} (h : mInv B) {its : Int32} : vO B its = true ↔ ∃ i, i < nO B ∧ its = nI i := by
  unfold vO; rw [h.2.1.2]; exact vLies_nat (by have := h.2.1.1; omega)
theorem vP_split {B : mB} (h : mInv B) (its : Int32) : (∃ i, its = nI i ∧ i < nP B ∧ i < 10 ∧ vP B (nI i) = true ∧ ix (nI i) = i) ∨ vP B its = false := by
  by_cases c : vP B its = true
  · obtain ⟨i, hi, rfl⟩ := (vP_iff h).mp c
    have := h.1.1
    exact Or.inl ⟨i, rfl, hi, by omega, c, ix_nI (by omega)⟩
  · exact Or.inr (by simpa using c)
theorem vO_split {B : mB} (h : mInv B) (its : Int32) : (∃ i, its = nI i ∧ i < nO B ∧ i < 8 ∧ vO B (nI i) = true ∧ ix (nI i) = i) ∨ vO B its = false := by
  by_cases c : vO B its = true
  · obtain ⟨i, hi, rfl⟩ := (vO_iff h).mp c
    have := h.2.1.1
    exact Or.inl ⟨i, rfl, hi, by omega, c, ix_nI (by omega)⟩
  · exact Or.inr (by simpa using c)
theorem vLies_const {v : Int32} {n : Nat} (hn : n < 2 ^ 30) {m : Int32} (hm : m = nI n - 1) : (∃ i, v = nI i ∧ i < n ∧ vLies (nI i) 0 m = true ∧ ix (nI i) = i) ∨ vLies v 0 m = false := by
  subst hm
  by_cases c : vLies v 0 (nI n - 1) = true
  · obtain ⟨i, hi, rfl⟩ := (vLies_nat hn).mp c
    exact Or.inl ⟨i, rfl, hi, c, ix_nI (by omega)⟩
  · exact Or.inr (by simpa using c)
def sGain (B : mB) (i : Nat) : Int32 := B 7 i / 5 + B 8 i
/-- what the first k offences from place b on lose -/
def sLo (B : mB) (b : Nat) : Nat → Int32
  | 0 => 0
  | k + 1 => sLo B b k + (if B 20 (b + k) = 0 then B 17 (b + k) else 0)
def sLoss (B : mB) (i : Nat) : Int32 := sLo B (50 * i) (oc B i)
def sRel (B : mB) (i : Nat) : Int32 := if B 2 i = 0 then B 3 i + B 4 i - (if sGain B i < B 4 i / 4 then sGain B i else B 4 i / 4) + sLoss B i else B 12 i
def sRaise (B : mB) (i : Nat) : mB := z2 B 6 i (B 6 i + (if B 6 i < 2 then 1 else 0))
/-- how many of the first k people have a tool of kind d -/
def sOut (B : mB) (d : Int32) : Nat → Int32
  | 0 => 0
  | k + 1 => sOut B d k + (if B 11 k = -1 then 0 else if B 24 (ox B k) = d then 1 else 0)
/-- how many of the first k people are on the order o -/
def sOn (B : mB) (o : Int32) : Nat → Int32
  | 0 => 0
  | k + 1 => sOn B o k + (if B 11 k = o then 1 else 0)
/-- the span's limit, the first k offences looked at -/
def sMost (B : mB) (i : Nat) : Nat → Int32
  | 0 => 20 * B 6 i + 10
  | k + 1 => sMost B i k - (if B 20 (50 * i + k) = 0 ∧ B 0 0 - B 18 (50 * i + k) ≤ 29 then 5 else 0)
def sBought (B : mB) (i : Nat) : Int32 := if B 15 i = B 0 0 / 7 then B 16 i else 0
def sTop (B : mB) (i : Nat) : Int32 := if sMost B i (oc B i) < 0 then 0 else sMost B i (oc B i)
def sRest (B : mB) (i : Nat) : Int32 := if B 2 i = 0 then (if sTop B i < sBought B i then 0 else sTop B i - sBought B i) else 0

section ZFOR
variable {p : Program} {l : Launch} {e : Env} {R : Room} {s : State} {m : MethodId} {args : Array Value} {below : List Frame} {meth : Method} {c : Code} {H : Heap} {locs : List Loc} {cells slots : Nat} {Q : State → Prop} {pc : Nat} {ls : Array Slot} {base : Nat}
/-- a loop of N rounds at its head -/
theorem z_for {S : Type} {HB : S → Heap → Prop} {nL : Nat} (N : Nat) (I : Nat → S → Prop) (loc : Nat → S → List (Nat × Value)) (k0 : Nat) (hk0 : k0 ≤ N) {u : S} (hI : I k0 u) (hH : HB u H) (hS : va_S (fun q : Nat => base ≤ q) s.heap H locs) (hl : lv_has ls nL (loc k0 u))
    (hend : ∀ (u : S) (H : Heap) (locs : List Loc) (ls : Array Slot), I N u → HB u H → va_S (fun q : Nat => base ≤ q) s.heap H locs → lv_has ls nL (loc N u) → W p l e R s m args below meth c H locs cells slots Q (F0 m pc ls []))
    (hstep : ∀ k : Nat, k < N → (∀ (u : S) (H : Heap) (locs : List Loc) (ls : Array Slot), I (k + 1) u → HB u H → va_S (fun q : Nat => base ≤ q) s.heap H locs → lv_has ls nL (loc (k + 1) u) → W p l e R s m args below meth c H locs cells slots Q (F0 m pc ls [])) →
      ∀ (u : S) (H : Heap) (locs : List Loc) (ls : Array Slot), I k u → HB u H → va_S (fun q : Nat => base ≤ q) s.heap H locs → lv_has ls nL (loc k u) → W p l e R s m args below meth c H locs cells slots Q (F0 m pc ls [])) :
    W p l e R s m args below meth c H locs cells slots Q (F0 m pc ls []) := by
  have key : ∀ (n k : Nat), k + n = N → ∀ (u : S) (H : Heap) (locs : List Loc) (ls : Array Slot), I k u → HB u H → va_S (fun q : Nat => base ≤ q) s.heap H locs → lv_has ls nL (loc k u) → W p l e R s m args below meth c H locs cells slots Q (F0 m pc ls []) := by
    intro n
    induction n with
    | zero => intro k hk u H locs ls h1 h2 h3 h4; rw [Nat.add_zero] at hk; subst hk; exact hend u H locs ls h1 h2 h3 h4
    | succ n ih => intro k hk u H locs ls h1 h2 h3 h4; exact hstep k (by omega) (fun u H locs ls a b c d => ih (k + 1) (by omega) u H locs ls a b c d) u H locs ls h1 h2 h3 h4
  exact key (N - k0) k0 (by omega) u H locs ls hI hH hS hl
end ZFOR
end
section
set_option maxHeartbeats 4000000 in
set_option maxRecDepth 100000 in
theorem c6_lies (l : Launch) (D : va_G) (cy : Nat → ClassId) (base : Nat) (w0 : zW) (y : Nat) (r : Nat → Nat) (B : Nat → Nat → Int32) (v : Int32) (a : Int32) (b : Int32) : Met l yX6_lies wsX6_lies ({ frames := 0, cells := 0, slots := 0, locals := 0 }) (zPc D cy base (mH D cy base w0 y r) [.int v, .int a, .int b] B) (zQi base (mH D cy base w0 y r) (fun (r0 : Int32) (u0 : Nat → Nat → Int32) => (vLies v a b = true ∧ r0 = 1 ∧ u0 = B) ∨ (vLies v a b = false ∧ r0 = 0 ∧ u0 = B))) 0 0 (fun q => base ≤ q) := by
  refine Met.ofW (cc := cX6_lies) (maxL := 3) (ret := (some .boolean)) (by decide) rfl ?_
  intro p e s m args below meth c s₁ B9 hml hv
  obtain ⟨rfl, hA, hH⟩ := hv
  have hx := B9.exec
  have hb := B9.bytes
  have hr := B9.returns
  have hts := atoms_spec (ws := wsX6_lies) B9.pre
  have hown : s.vm.findClass RX6 = some m.cls := findClass_of_methodNamed B9.named
  have hlocks := B9.notSynchronized
  have hS : va_S (fun q : Nat => base ≤ q) s.heap s.heap [] := va_S.rf
  have hl := lv_entry ([.int v, .int a, .int b]) (n := 3) (Nat.le_of_ble_eq_true rfl)
  rw [lg_entry_eq]
  generalize (lg_sl ([.int v, .int a, .int b]) ++ List.replicate (3 - (lg_sl ([.int v, .int a, .int b])).length) Slot.unset).toArray = ls at hl ⊢
  have hl : lv_has ls 3 [(0, .int v), (1, .int a), (2, .int b)] := hl
  refine lv_iload_n hx hb dX6_lies_0 rfl (lv_at hl 0 rfl) ?_
  refine lv_iload_n hx hb dX6_lies_1 rfl (lv_at hl 1 rfl) ?_
  refine lv_icmp_lt (tgt := 14) hx hb dX6_lies_2 (by decide) (fun c_1 => ?_) (fun c_1 => ?_)
  · refine lv_iconst (v := 0) hx hb dX6_lies_14 (by decide) ?_
    exact z_zret hx hb hr hlocks hH hS rfl (by first | (refine Or.inl (⟨?_, rfl, rfl⟩) <;> (simp_all [vLies]; done)) | (refine Or.inr (⟨?_, rfl, rfl⟩) <;> (simp_all [vLies]; done))) (by decide) (by decide) dX6_lies_15
  · refine lv_iload_n hx hb dX6_lies_5 rfl (lv_at hl 0 rfl) ?_
    refine lv_iload_n hx hb dX6_lies_6 rfl (lv_at hl 2 rfl) ?_
    refine lv_icmp_gt (tgt := 14) hx hb dX6_lies_7 (by decide) (fun c_2 => ?_) (fun c_2 => ?_)
    · refine lv_iconst (v := 0) hx hb dX6_lies_14 (by decide) ?_
      exact z_zret hx hb hr hlocks hH hS rfl (by first | (refine Or.inl (⟨?_, rfl, rfl⟩) <;> (simp_all [vLies]; done)) | (refine Or.inr (⟨?_, rfl, rfl⟩) <;> (simp_all [vLies]; done))) (by decide) (by decide) dX6_lies_15
    · refine lv_iconst (v := 1) hx hb dX6_lies_10 (by decide) ?_
      refine lv_goto (tgt := 15) hx hb dX6_lies_11 (by decide) ?_
      exact z_zret hx hb hr hlocks hH hS rfl (by first | (refine Or.inl (⟨?_, rfl, rfl⟩) <;> (simp_all [vLies]; done)) | (refine Or.inr (⟨?_, rfl, rfl⟩) <;> (simp_all [vLies]; done))) (by decide) (by decide) dX6_lies_15
set_option maxHeartbeats 4000000 in
set_option maxRecDepth 100000 in
theorem c6_fails0 (l : Launch) (D : va_G) (cy : Nat → ClassId) (base : Nat) (w0 : zW) (y : Nat) (r : Nat → Nat) (B : Nat → Nat → Int32)  : Met l yX6_fails wsX6_fails ({ frames := 0, cells := 0, slots := 0, locals := 0 }) (zPc D cy base (mH D cy base w0 y r) [.ref y, .int 0] B) (zQi base (mH D cy base w0 y r) (fun (r0 : Int32) (u0 : Nat → Nat → Int32) => r0 = 0 ∧ u0 = (z2 B 27 0 0))) 0 0 (fun q => base ≤ q) := by
  refine Met.ofW (cc := cX6_fails) (maxL := 2) (ret := (some .boolean)) (by decide) rfl ?_
  intro p e s m args below meth c s₁ B9 hml hv
  obtain ⟨rfl, hA, hH⟩ := hv
  have hx := B9.exec
  have hb := B9.bytes
  have hr := B9.returns
  have hts := atoms_spec (ws := wsX6_fails) B9.pre
  have hown : s.vm.findClass RX6 = some m.cls := findClass_of_methodNamed B9.named
  have hlocks := B9.notSynchronized
  have hi6 : ∀ w ∈ wsX60, w ∈ wsX6_fails := by decide +kernel
  have hS : va_S (fun q : Nat => base ≤ q) s.heap s.heap [] := va_S.rf
  have hl := lv_entry ([.ref y, .int 0]) (n := 2) (Nat.le_of_ble_eq_true rfl)
  rw [lg_entry_eq]
  generalize (lg_sl ([.ref y, .int 0]) ++ List.replicate (2 - (lg_sl ([.ref y, .int 0])).length) Slot.unset).toArray = ls at hl ⊢
  have hl : lv_has ls 2 [(0, .ref y), (1, .int 0)] := hl
  refine lv_aload_n hx hb dX6_fails_0 rfl (lv_at hl 0 rfl) ?_
  refine lv_iload_n hx hb dX6_fails_1 rfl (lv_at hl 1 rfl) ?_
  refine m_put (f := 27) (by unfold mNum; decide) hx hb hts hi6 hown hA hH hS (hts (.fieldLink RX6 83 "ParoleCardsModel" "thrown" "I") (by decide +kernel)) dX6_fails_2 (fun H locs hH hS => ?_)
  refine lv_iload_n hx hb dX6_fails_5 rfl (lv_at hl 1 rfl) ?_
  refine lv_if_le (tgt := 13) hx hb dX6_fails_6 (by decide) (fun _ => ?_) (fun c_1 => absurd (by decide) c_1)
  refine lv_iconst (v := 0) hx hb dX6_fails_13 (by decide) ?_
  exact z_zret hx hb hr hlocks hH hS rfl (by exact ⟨rfl, rfl⟩) (by decide) (by decide) dX6_fails_14
set_option maxHeartbeats 4000000 in
set_option maxRecDepth 100000 in
theorem c6_fails1 (l : Launch) (D : va_G) (cy : Nat → ClassId) (base : Nat) (w0 : zW) (y : Nat) (r : Nat → Nat) (B : Nat → Nat → Int32)  : Met l yX6_fails wsX6_fails ({ frames := 0, cells := 0, slots := 0, locals := 0 }) (zPc D cy base (mH D cy base w0 y r) [.ref y, .int 1] B) (zQi base (mH D cy base w0 y r) (fun (r0 : Int32) (u0 : Nat → Nat → Int32) => r0 = 1 ∧ u0 = (z2 B 27 0 1))) 0 0 (fun q => base ≤ q) := by
  refine Met.ofW (cc := cX6_fails) (maxL := 2) (ret := (some .boolean)) (by decide) rfl ?_
  intro p e s m args below meth c s₁ B9 hml hv
  obtain ⟨rfl, hA, hH⟩ := hv
  have hx := B9.exec
  have hb := B9.bytes
  have hr := B9.returns
  have hts := atoms_spec (ws := wsX6_fails) B9.pre
  have hown : s.vm.findClass RX6 = some m.cls := findClass_of_methodNamed B9.named
  have hlocks := B9.notSynchronized
  have hi6 : ∀ w ∈ wsX60, w ∈ wsX6_fails := by decide +kernel
  have hS : va_S (fun q : Nat => base ≤ q) s.heap s.heap [] := va_S.rf
  have hl := lv_entry ([.ref y, .int 1]) (n := 2) (Nat.le_of_ble_eq_true rfl)
  rw [lg_entry_eq]
  generalize (lg_sl ([.ref y, .int 1]) ++ List.replicate (2 - (lg_sl ([.ref y, .int 1])).length) Slot.unset).toArray = ls at hl ⊢
  have hl : lv_has ls 2 [(0, .ref y), (1, .int 1)] := hl
  refine lv_aload_n hx hb dX6_fails_0 rfl (lv_at hl 0 rfl) ?_
  refine lv_iload_n hx hb dX6_fails_1 rfl (lv_at hl 1 rfl) ?_
  refine m_put (f := 27) (by unfold mNum; decide) hx hb hts hi6 hown hA hH hS (hts (.fieldLink RX6 83 "ParoleCardsModel" "thrown" "I") (by decide +kernel)) dX6_fails_2 (fun H locs hH hS => ?_)
  refine lv_iload_n hx hb dX6_fails_5 rfl (lv_at hl 1 rfl) ?_
  refine lv_if_le (tgt := 13) hx hb dX6_fails_6 (by decide) (fun c_1 => absurd c_1 (by decide)) (fun _ => ?_)
  refine lv_iconst (v := 1) hx hb dX6_fails_9 (by decide) ?_
  refine lv_goto (tgt := 14) hx hb dX6_fails_10 (by decide) ?_
  exact z_zret hx hb hr hlocks hH hS rfl (by exact ⟨rfl, rfl⟩) (by decide) (by decide) dX6_fails_14
set_option maxHeartbeats 4000000 in
set_option maxRecDepth 100000 in
theorem c6_fails2 (l : Launch) (D : va_G) (cy : Nat → ClassId) (base : Nat) (w0 : zW) (y : Nat) (r : Nat → Nat) (B : Nat → Nat → Int32)  : Met l yX6_fails wsX6_fails ({ frames := 0, cells := 0, slots := 0, locals := 0 }) (zPc D cy base (mH D cy base w0 y r) [.ref y, .int 2] B) (zQi base (mH D cy base w0 y r) (fun (r0 : Int32) (u0 : Nat → Nat → Int32) => r0 = 1 ∧ u0 = (z2 B 27 0 2))) 0 0 (fun q => base ≤ q) := by
  refine Met.ofW (cc := cX6_fails) (maxL := 2) (ret := (some .boolean)) (by decide) rfl ?_
  intro p e s m args below meth c s₁ B9 hml hv
  obtain ⟨rfl, hA, hH⟩ := hv
  have hx := B9.exec
  have hb := B9.bytes
  have hr := B9.returns
  have hts := atoms_spec (ws := wsX6_fails) B9.pre
  have hown : s.vm.findClass RX6 = some m.cls := findClass_of_methodNamed B9.named
  have hlocks := B9.notSynchronized
  have hi6 : ∀ w ∈ wsX60, w ∈ wsX6_fails := by decide +kernel
  have hS : va_S (fun q : Nat => base ≤ q) s.heap s.heap [] := va_S.rf
  have hl := lv_entry ([.ref y, .int 2]) (n := 2) (Nat.le_of_ble_eq_true rfl)
  rw [lg_entry_eq]
  generalize (lg_sl ([.ref y, .int 2]) ++ List.replicate (2 - (lg_sl ([.ref y, .int 2])).length) Slot.unset).toArray = ls at hl ⊢
  have hl : lv_has ls 2 [(0, .ref y), (1, .int 2)] := hl
  refine lv_aload_n hx hb dX6_fails_0 rfl (lv_at hl 0 rfl) ?_
  refine lv_iload_n hx hb dX6_fails_1 rfl (lv_at hl 1 rfl) ?_
  refine m_put (f := 27) (by unfold mNum; decide) hx hb hts hi6 hown hA hH hS (hts (.fieldLink RX6 83 "ParoleCardsModel" "thrown" "I") (by decide +kernel)) dX6_fails_2 (fun H locs hH hS => ?_)
  refine lv_iload_n hx hb dX6_fails_5 rfl (lv_at hl 1 rfl) ?_
  refine lv_if_le (tgt := 13) hx hb dX6_fails_6 (by decide) (fun c_1 => absurd c_1 (by decide)) (fun _ => ?_)
  refine lv_iconst (v := 1) hx hb dX6_fails_9 (by decide) ?_
  refine lv_goto (tgt := 14) hx hb dX6_fails_10 (by decide) ?_
  exact z_zret hx hb hr hlocks hH hS rfl (by exact ⟨rfl, rfl⟩) (by decide) (by decide) dX6_fails_14
set_option maxHeartbeats 4000000 in
set_option maxRecDepth 100000 in
theorem c6_fails3 (l : Launch) (D : va_G) (cy : Nat → ClassId) (base : Nat) (w0 : zW) (y : Nat) (r : Nat → Nat) (B : Nat → Nat → Int32)  : Met l yX6_fails wsX6_fails ({ frames := 0, cells := 0, slots := 0, locals := 0 }) (zPc D cy base (mH D cy base w0 y r) [.ref y, .int 3] B) (zQi base (mH D cy base w0 y r) (fun (r0 : Int32) (u0 : Nat → Nat → Int32) => r0 = 1 ∧ u0 = (z2 B 27 0 3))) 0 0 (fun q => base ≤ q) := by
  refine Met.ofW (cc := cX6_fails) (maxL := 2) (ret := (some .boolean)) (by decide) rfl ?_
  intro p e s m args below meth c s₁ B9 hml hv
  obtain ⟨rfl, hA, hH⟩ := hv
  have hx := B9.exec
  have hb := B9.bytes
  have hr := B9.returns
  have hts := atoms_spec (ws := wsX6_fails) B9.pre
  have hown : s.vm.findClass RX6 = some m.cls := findClass_of_methodNamed B9.named
  have hlocks := B9.notSynchronized
  have hi6 : ∀ w ∈ wsX60, w ∈ wsX6_fails := by decide +kernel
  have hS : va_S (fun q : Nat => base ≤ q) s.heap s.heap [] := va_S.rf
  have hl := lv_entry ([.ref y, .int 3]) (n := 2) (Nat.le_of_ble_eq_true rfl)
  rw [lg_entry_eq]
  generalize (lg_sl ([.ref y, .int 3]) ++ List.replicate (2 - (lg_sl ([.ref y, .int 3])).length) Slot.unset).toArray = ls at hl ⊢
  have hl : lv_has ls 2 [(0, .ref y), (1, .int 3)] := hl
  refine lv_aload_n hx hb dX6_fails_0 rfl (lv_at hl 0 rfl) ?_
  refine lv_iload_n hx hb dX6_fails_1 rfl (lv_at hl 1 rfl) ?_
  refine m_put (f := 27) (by unfold mNum; decide) hx hb hts hi6 hown hA hH hS (hts (.fieldLink RX6 83 "ParoleCardsModel" "thrown" "I") (by decide +kernel)) dX6_fails_2 (fun H locs hH hS => ?_)
  refine lv_iload_n hx hb dX6_fails_5 rfl (lv_at hl 1 rfl) ?_
  refine lv_if_le (tgt := 13) hx hb dX6_fails_6 (by decide) (fun c_1 => absurd c_1 (by decide)) (fun _ => ?_)
  refine lv_iconst (v := 1) hx hb dX6_fails_9 (by decide) ?_
  refine lv_goto (tgt := 14) hx hb dX6_fails_10 (by decide) ?_
  exact z_zret hx hb hr hlocks hH hS rfl (by exact ⟨rfl, rfl⟩) (by decide) (by decide) dX6_fails_14
set_option maxHeartbeats 4000000 in
set_option maxRecDepth 100000 in
theorem c6_thrown (l : Launch) (D : va_G) (cy : Nat → ClassId) (base : Nat) (w0 : zW) (y : Nat) (r : Nat → Nat) (B : Nat → Nat → Int32)  : Met l yX6_thrown wsX6_thrown ({ frames := 0, cells := 0, slots := 0, locals := 0 }) (zPc D cy base (mH D cy base w0 y r) [.ref y] B) (zQi base (mH D cy base w0 y r) (fun (r0 : Int32) (u0 : Nat → Nat → Int32) => r0 = (B 27 0) ∧ u0 = B)) 0 0 (fun q => base ≤ q) := by
  refine Met.ofW (cc := cX6_thrown) (maxL := 1) (ret := (some .int)) (by decide) rfl ?_
  intro p e s m args below meth c s₁ B9 hml hv
  obtain ⟨rfl, hA, hH⟩ := hv
  have hx := B9.exec
  have hb := B9.bytes
  have hr := B9.returns
  have hts := atoms_spec (ws := wsX6_thrown) B9.pre
  have hown : s.vm.findClass RX6 = some m.cls := findClass_of_methodNamed B9.named
  have hlocks := B9.notSynchronized
  have hi6 : ∀ w ∈ wsX60, w ∈ wsX6_thrown := by decide +kernel
  have hS : va_S (fun q : Nat => base ≤ q) s.heap s.heap [] := va_S.rf
  have hl := lv_entry ([.ref y]) (n := 1) (Nat.le_of_ble_eq_true rfl)
  rw [lg_entry_eq]
  generalize (lg_sl ([.ref y]) ++ List.replicate (1 - (lg_sl ([.ref y])).length) Slot.unset).toArray = ls at hl ⊢
  have hl : lv_has ls 1 [(0, .ref y)] := hl
  refine lv_aload_n hx hb dX6_thrown_0 rfl (lv_at hl 0 rfl) ?_
  refine m_num (f := 27) (v := (B 27 0)) (by unfold mNum; decide) hx hb hts hi6 hown hA hH (hts (.fieldLink RX6 83 "ParoleCardsModel" "thrown" "I") (by decide +kernel)) rfl dX6_thrown_1 ?_
  exact z_iret hx hb hr hlocks hH hS (by exact ⟨rfl, rfl⟩) (by decide) (by decide) dX6_thrown_4
set_option maxHeartbeats 4000000 in
set_option maxRecDepth 100000 in
theorem c6_isPerson_t (l : Launch) (D : va_G) (cy : Nat → ClassId) (base : Nat) (w0 : zW) (y : Nat) (r : Nat → Nat) (B : Nat → Nat → Int32) (i : Nat) (h9 : vP B (nI i) = true) : Met l yX6_isPerson wsX6_isPerson ({ frames := 1, cells := 0, slots := 0, locals := 22 }) (zPc D cy base (mH D cy base w0 y r) [.ref y, .int (nI i)] B) (zQi base (mH D cy base w0 y r) (fun (r0 : Int32) (u0 : Nat → Nat → Int32) => r0 = 1 ∧ u0 = B)) 0 0 (fun q => base ≤ q) := by
  refine Met.ofW (cc := cX6_isPerson) (maxL := 2) (ret := (some .boolean)) (by decide) rfl ?_
  intro p e s m args below meth c s₁ B9 hml hv
  obtain ⟨rfl, hA, hH⟩ := hv
  have hx := B9.exec
  have hb := B9.bytes
  have hr := B9.returns
  have hts := atoms_spec (ws := wsX6_isPerson) B9.pre
  have hown : s.vm.findClass RX6 = some m.cls := findClass_of_methodNamed B9.named
  have hlocks := B9.notSynchronized
  have hi6 : ∀ w ∈ wsX60, w ∈ wsX6_isPerson := by decide +kernel
  have hS : va_S (fun q : Nat => base ≤ q) s.heap s.heap [] := va_S.rf
  have hl := lv_entry ([.ref y, .int (nI i)]) (n := 2) (Nat.le_of_ble_eq_true rfl)
  rw [lg_entry_eq]
  generalize (lg_sl ([.ref y, .int (nI i)]) ++ List.replicate (2 - (lg_sl ([.ref y, .int (nI i)])).length) Slot.unset).toArray = ls at hl ⊢
  have hl : lv_has ls 2 [(0, .ref y), (1, .int (nI i))] := hl
  refine lv_iload_n hx hb dX6_isPerson_0 rfl (lv_at hl 1 rfl) ?_
  refine lv_iconst (v := 0) hx hb dX6_isPerson_1 (by decide) ?_
  refine lv_aload_n hx hb dX6_isPerson_2 rfl (lv_at hl 0 rfl) ?_
  refine m_num (f := 1) (v := (B 1 0)) (by unfold mNum; decide) hx hb hts hi6 hown hA hH (hts (.fieldLink RX6 87 "ParoleCardsModel" "people" "I") (by decide +kernel)) rfl dX6_isPerson_3 ?_
  refine lv_iconst (v := 1) hx hb dX6_isPerson_6 (by decide) ?_
  refine lv_isub hx hb dX6_isPerson_7 ?_
  refine z_calli (va_runS (As := [.int (nI i), .int 0, .int ((B 1 0) - 1)]) (rest := []) ⟨hx, hb, hml, hown, hts⟩ (c6_lies l D cy base w0 y r B (nI i) 0 ((B 1 0) - 1) ) (va_cwS 3 hts gX6_isPerson_X6_lies rfl rfl rfl (by decide +kernel) ⟨Nat.le_of_ble_eq_true rfl, Nat.le_of_ble_eq_true rfl⟩) (z_preS hA hS hH) rfl rfl hl.1 rfl (lv_room (Nat.le_of_ble_eq_true rfl)) dX6_isPerson_8 ⟨Nat.le_of_ble_eq_true rfl, Nat.le_of_ble_eq_true rfl⟩) hS (fun r_k_1 u_k_1 H locs hw_k_1 hH hz_k_1 hS => ?_)
  rcases hw_k_1 with ⟨h_k_1_0, rfl, hu_k_1⟩ | ⟨h_k_1_0, rfl, hu_k_1⟩
  · rw [hu_k_1] at hH
    exact z_zret hx hb hr hlocks hH hS rfl (by exact ⟨rfl, rfl⟩) (by decide) (by decide) dX6_isPerson_11
  · rw [hu_k_1] at hH
    exact absurd (h9.symm.trans h_k_1_0) (by decide)
set_option maxHeartbeats 4000000 in
set_option maxRecDepth 100000 in
theorem c6_isPerson_f (l : Launch) (D : va_G) (cy : Nat → ClassId) (base : Nat) (w0 : zW) (y : Nat) (r : Nat → Nat) (B : Nat → Nat → Int32) (v : Int32) (h9 : vP B v = false) : Met l yX6_isPerson wsX6_isPerson ({ frames := 1, cells := 0, slots := 0, locals := 22 }) (zPc D cy base (mH D cy base w0 y r) [.ref y, .int v] B) (zQi base (mH D cy base w0 y r) (fun (r0 : Int32) (u0 : Nat → Nat → Int32) => r0 = 0 ∧ u0 = B)) 0 0 (fun q => base ≤ q) := by
  refine Met.ofW (cc := cX6_isPerson) (maxL := 2) (ret := (some .boolean)) (by decide) rfl ?_
  intro p e s m args below meth c s₁ B9 hml hv
  obtain ⟨rfl, hA, hH⟩ := hv
  have hx := B9.exec
  have hb := B9.bytes
  have hr := B9.returns
  have hts := atoms_spec (ws := wsX6_isPerson) B9.pre
  have hown : s.vm.findClass RX6 = some m.cls := findClass_of_methodNamed B9.named
  have hlocks := B9.notSynchronized
  have hi6 : ∀ w ∈ wsX60, w ∈ wsX6_isPerson := by decide +kernel
  have hS : va_S (fun q : Nat => base ≤ q) s.heap s.heap [] := va_S.rf
  have hl := lv_entry ([.ref y, .int v]) (n := 2) (Nat.le_of_ble_eq_true rfl)
  rw [lg_entry_eq]
  generalize (lg_sl ([.ref y, .int v]) ++ List.replicate (2 - (lg_sl ([.ref y, .int v])).length) Slot.unset).toArray = ls at hl ⊢
  have hl : lv_has ls 2 [(0, .ref y), (1, .int v)] := hl
  refine lv_iload_n hx hb dX6_isPerson_0 rfl (lv_at hl 1 rfl) ?_
  refine lv_iconst (v := 0) hx hb dX6_isPerson_1 (by decide) ?_
  refine lv_aload_n hx hb dX6_isPerson_2 rfl (lv_at hl 0 rfl) ?_
  refine m_num (f := 1) (v := (B 1 0)) (by unfold mNum; decide) hx hb hts hi6 hown hA hH (hts (.fieldLink RX6 87 "ParoleCardsModel" "people" "I") (by decide +kernel)) rfl dX6_isPerson_3 ?_
  refine lv_iconst (v := 1) hx hb dX6_isPerson_6 (by decide) ?_
  refine lv_isub hx hb dX6_isPerson_7 ?_
  refine z_calli (va_runS (As := [.int v, .int 0, .int ((B 1 0) - 1)]) (rest := []) ⟨hx, hb, hml, hown, hts⟩ (c6_lies l D cy base w0 y r B v 0 ((B 1 0) - 1) ) (va_cwS 3 hts gX6_isPerson_X6_lies rfl rfl rfl (by decide +kernel) ⟨Nat.le_of_ble_eq_true rfl, Nat.le_of_ble_eq_true rfl⟩) (z_preS hA hS hH) rfl rfl hl.1 rfl (lv_room (Nat.le_of_ble_eq_true rfl)) dX6_isPerson_8 ⟨Nat.le_of_ble_eq_true rfl, Nat.le_of_ble_eq_true rfl⟩) hS (fun r_k_1 u_k_1 H locs hw_k_1 hH hz_k_1 hS => ?_)
  rcases hw_k_1 with ⟨h_k_1_0, rfl, hu_k_1⟩ | ⟨h_k_1_0, rfl, hu_k_1⟩
  · rw [hu_k_1] at hH
    exact absurd (h9.symm.trans h_k_1_0) (by decide)
  · rw [hu_k_1] at hH
    exact z_zret hx hb hr hlocks hH hS rfl (by exact ⟨rfl, rfl⟩) (by decide) (by decide) dX6_isPerson_11
set_option maxHeartbeats 4000000 in
set_option maxRecDepth 100000 in
theorem c6_isOrder_t (l : Launch) (D : va_G) (cy : Nat → ClassId) (base : Nat) (w0 : zW) (y : Nat) (r : Nat → Nat) (B : Nat → Nat → Int32) (i : Nat) (h9 : vO B (nI i) = true) : Met l yX6_isOrder wsX6_isOrder ({ frames := 1, cells := 0, slots := 0, locals := 22 }) (zPc D cy base (mH D cy base w0 y r) [.ref y, .int (nI i)] B) (zQi base (mH D cy base w0 y r) (fun (r0 : Int32) (u0 : Nat → Nat → Int32) => r0 = 1 ∧ u0 = B)) 0 0 (fun q => base ≤ q) := by
  refine Met.ofW (cc := cX6_isOrder) (maxL := 2) (ret := (some .boolean)) (by decide) rfl ?_
  intro p e s m args below meth c s₁ B9 hml hv
  obtain ⟨rfl, hA, hH⟩ := hv
  have hx := B9.exec
  have hb := B9.bytes
  have hr := B9.returns
  have hts := atoms_spec (ws := wsX6_isOrder) B9.pre
  have hown : s.vm.findClass RX6 = some m.cls := findClass_of_methodNamed B9.named
  have hlocks := B9.notSynchronized
  have hi6 : ∀ w ∈ wsX60, w ∈ wsX6_isOrder := by decide +kernel
  have hS : va_S (fun q : Nat => base ≤ q) s.heap s.heap [] := va_S.rf
  have hl := lv_entry ([.ref y, .int (nI i)]) (n := 2) (Nat.le_of_ble_eq_true rfl)
  rw [lg_entry_eq]
  generalize (lg_sl ([.ref y, .int (nI i)]) ++ List.replicate (2 - (lg_sl ([.ref y, .int (nI i)])).length) Slot.unset).toArray = ls at hl ⊢
  have hl : lv_has ls 2 [(0, .ref y), (1, .int (nI i))] := hl
  refine lv_iload_n hx hb dX6_isOrder_0 rfl (lv_at hl 1 rfl) ?_
  refine lv_iconst (v := 0) hx hb dX6_isOrder_1 (by decide) ?_
  refine lv_aload_n hx hb dX6_isOrder_2 rfl (lv_at hl 0 rfl) ?_
  refine m_num (f := 22) (v := (B 22 0)) (by unfold mNum; decide) hx hb hts hi6 hown hA hH (hts (.fieldLink RX6 94 "ParoleCardsModel" "orders" "I") (by decide +kernel)) rfl dX6_isOrder_3 ?_
  refine lv_iconst (v := 1) hx hb dX6_isOrder_6 (by decide) ?_
  refine lv_isub hx hb dX6_isOrder_7 ?_
  refine z_calli (va_runS (As := [.int (nI i), .int 0, .int ((B 22 0) - 1)]) (rest := []) ⟨hx, hb, hml, hown, hts⟩ (c6_lies l D cy base w0 y r B (nI i) 0 ((B 22 0) - 1) ) (va_cwS 3 hts gX6_isOrder_X6_lies rfl rfl rfl (by decide +kernel) ⟨Nat.le_of_ble_eq_true rfl, Nat.le_of_ble_eq_true rfl⟩) (z_preS hA hS hH) rfl rfl hl.1 rfl (lv_room (Nat.le_of_ble_eq_true rfl)) dX6_isOrder_8 ⟨Nat.le_of_ble_eq_true rfl, Nat.le_of_ble_eq_true rfl⟩) hS (fun r_k_1 u_k_1 H locs hw_k_1 hH hz_k_1 hS => ?_)
  rcases hw_k_1 with ⟨h_k_1_0, rfl, hu_k_1⟩ | ⟨h_k_1_0, rfl, hu_k_1⟩
  · rw [hu_k_1] at hH
    exact z_zret hx hb hr hlocks hH hS rfl (by exact ⟨rfl, rfl⟩) (by decide) (by decide) dX6_isOrder_11
  · rw [hu_k_1] at hH
    exact absurd (h9.symm.trans h_k_1_0) (by decide)
set_option maxHeartbeats 4000000 in
set_option maxRecDepth 100000 in
theorem c6_isOrder_f (l : Launch) (D : va_G) (cy : Nat → ClassId) (base : Nat) (w0 : zW) (y : Nat) (r : Nat → Nat) (B : Nat → Nat → Int32) (v : Int32) (h9 : vO B v = false) : Met l yX6_isOrder wsX6_isOrder ({ frames := 1, cells := 0, slots := 0, locals := 22 }) (zPc D cy base (mH D cy base w0 y r) [.ref y, .int v] B) (zQi base (mH D cy base w0 y r) (fun (r0 : Int32) (u0 : Nat → Nat → Int32) => r0 = 0 ∧ u0 = B)) 0 0 (fun q => base ≤ q) := by
  refine Met.ofW (cc := cX6_isOrder) (maxL := 2) (ret := (some .boolean)) (by decide) rfl ?_
  intro p e s m args below meth c s₁ B9 hml hv
  obtain ⟨rfl, hA, hH⟩ := hv
  have hx := B9.exec
  have hb := B9.bytes
  have hr := B9.returns
  have hts := atoms_spec (ws := wsX6_isOrder) B9.pre
  have hown : s.vm.findClass RX6 = some m.cls := findClass_of_methodNamed B9.named
  have hlocks := B9.notSynchronized
  have hi6 : ∀ w ∈ wsX60, w ∈ wsX6_isOrder := by decide +kernel
  have hS : va_S (fun q : Nat => base ≤ q) s.heap s.heap [] := va_S.rf
  have hl := lv_entry ([.ref y, .int v]) (n := 2) (Nat.le_of_ble_eq_true rfl)
  rw [lg_entry_eq]
  generalize (lg_sl ([.ref y, .int v]) ++ List.replicate (2 - (lg_sl ([.ref y, .int v])).length) Slot.unset).toArray = ls at hl ⊢
  have hl : lv_has ls 2 [(0, .ref y), (1, .int v)] := hl
  refine lv_iload_n hx hb dX6_isOrder_0 rfl (lv_at hl 1 rfl) ?_
  refine lv_iconst (v := 0) hx hb dX6_isOrder_1 (by decide) ?_
  refine lv_aload_n hx hb dX6_isOrder_2 rfl (lv_at hl 0 rfl) ?_
  refine m_num (f := 22) (v := (B 22 0)) (by unfold mNum; decide) hx hb hts hi6 hown hA hH (hts (.fieldLink RX6 94 "ParoleCardsModel" "orders" "I") (by decide +kernel)) rfl dX6_isOrder_3 ?_
  refine lv_iconst (v := 1) hx hb dX6_isOrder_6 (by decide) ?_
  refine lv_isub hx hb dX6_isOrder_7 ?_
  refine z_calli (va_runS (As := [.int v, .int 0, .int ((B 22 0) - 1)]) (rest := []) ⟨hx, hb, hml, hown, hts⟩ (c6_lies l D cy base w0 y r B v 0 ((B 22 0) - 1) ) (va_cwS 3 hts gX6_isOrder_X6_lies rfl rfl rfl (by decide +kernel) ⟨Nat.le_of_ble_eq_true rfl, Nat.le_of_ble_eq_true rfl⟩) (z_preS hA hS hH) rfl rfl hl.1 rfl (lv_room (Nat.le_of_ble_eq_true rfl)) dX6_isOrder_8 ⟨Nat.le_of_ble_eq_true rfl, Nat.le_of_ble_eq_true rfl⟩) hS (fun r_k_1 u_k_1 H locs hw_k_1 hH hz_k_1 hS => ?_)
  rcases hw_k_1 with ⟨h_k_1_0, rfl, hu_k_1⟩ | ⟨h_k_1_0, rfl, hu_k_1⟩
  · rw [hu_k_1] at hH
    exact absurd (h9.symm.trans h_k_1_0) (by decide)
  · rw [hu_k_1] at hH
    exact z_zret hx hb hr hlocks hH hS rfl (by exact ⟨rfl, rfl⟩) (by decide) (by decide) dX6_isOrder_11
set_option maxHeartbeats 4000000 in
set_option maxRecDepth 100000 in
theorem c6_isKind (l : Launch) (D : va_G) (cy : Nat → ClassId) (base : Nat) (w0 : zW) (y : Nat) (r : Nat → Nat) (B : Nat → Nat → Int32) (v : Int32) : Met l yX6_isKind wsX6_isKind ({ frames := 1, cells := 0, slots := 0, locals := 22 }) (zPc D cy base (mH D cy base w0 y r) [.int v] B) (zQi base (mH D cy base w0 y r) (fun (r0 : Int32) (u0 : Nat → Nat → Int32) => (vLies v 0 2 = true ∧ r0 = 1 ∧ u0 = B) ∨ (vLies v 0 2 = false ∧ r0 = 0 ∧ u0 = B))) 0 0 (fun q => base ≤ q) := by
  refine Met.ofW (cc := cX6_isKind) (maxL := 1) (ret := (some .boolean)) (by decide) rfl ?_
  intro p e s m args below meth c s₁ B9 hml hv
  obtain ⟨rfl, hA, hH⟩ := hv
  have hx := B9.exec
  have hb := B9.bytes
  have hr := B9.returns
  have hts := atoms_spec (ws := wsX6_isKind) B9.pre
  have hown : s.vm.findClass RX6 = some m.cls := findClass_of_methodNamed B9.named
  have hlocks := B9.notSynchronized
  have hS : va_S (fun q : Nat => base ≤ q) s.heap s.heap [] := va_S.rf
  have hl := lv_entry ([.int v]) (n := 1) (Nat.le_of_ble_eq_true rfl)
  rw [lg_entry_eq]
  generalize (lg_sl ([.int v]) ++ List.replicate (1 - (lg_sl ([.int v])).length) Slot.unset).toArray = ls at hl ⊢
  have hl : lv_has ls 1 [(0, .int v)] := hl
  refine lv_iload_n hx hb dX6_isKind_0 rfl (lv_at hl 0 rfl) ?_
  refine lv_iconst (v := 0) hx hb dX6_isKind_1 (by decide) ?_
  refine lv_iconst (v := 2) hx hb dX6_isKind_2 (by decide) ?_
  refine z_calli (va_runS (As := [.int v, .int 0, .int 2]) (rest := []) ⟨hx, hb, hml, hown, hts⟩ (c6_lies l D cy base w0 y r B v 0 2 ) (va_cwS 3 hts gX6_isKind_X6_lies rfl rfl rfl (by decide +kernel) ⟨Nat.le_of_ble_eq_true rfl, Nat.le_of_ble_eq_true rfl⟩) (z_preS hA hS hH) rfl rfl hl.1 rfl (lv_room (Nat.le_of_ble_eq_true rfl)) dX6_isKind_3 ⟨Nat.le_of_ble_eq_true rfl, Nat.le_of_ble_eq_true rfl⟩) hS (fun r_k_1 u_k_1 H locs hw_k_1 hH hz_k_1 hS => ?_)
  rcases hw_k_1 with ⟨h_k_1_0, rfl, hu_k_1⟩ | ⟨h_k_1_0, rfl, hu_k_1⟩
  · rw [hu_k_1] at hH
    exact z_zret hx hb hr hlocks hH hS rfl (by first | (refine Or.inl (⟨?_, rfl, rfl⟩) <;> first | assumption | omega | (simp_all; done)) | (refine Or.inr (⟨?_, rfl, rfl⟩) <;> first | assumption | omega | (simp_all; done))) (by decide) (by decide) dX6_isKind_6
  · rw [hu_k_1] at hH
    exact z_zret hx hb hr hlocks hH hS rfl (by first | (refine Or.inl (⟨?_, rfl, rfl⟩) <;> first | assumption | omega | (simp_all; done)) | (refine Or.inr (⟨?_, rfl, rfl⟩) <;> first | assumption | omega | (simp_all; done))) (by decide) (by decide) dX6_isKind_6
set_option maxHeartbeats 4000000 in
set_option maxRecDepth 100000 in
theorem c6_gains (l : Launch) (D : va_G) (cy : Nat → ClassId) (base : Nat) (w0 : zW) (y : Nat) (r : Nat → Nat) (B : Nat → Nat → Int32) (i : Nat) (hi : i < 10) : Met l yX6_gains wsX6_gains ({ frames := 0, cells := 0, slots := 0, locals := 0 }) (zPc D cy base (mH D cy base w0 y r) [.ref y, .int (nI i)] B) (zQi base (mH D cy base w0 y r) (fun (r0 : Int32) (u0 : Nat → Nat → Int32) => r0 = (sGain B i) ∧ u0 = B)) 0 0 (fun q => base ≤ q) := by
  refine Met.ofW (cc := cX6_gains) (maxL := 2) (ret := (some .int)) (by decide) rfl ?_
  intro p e s m args below meth c s₁ B9 hml hv
  obtain ⟨rfl, hA, hH⟩ := hv
  have hx := B9.exec
  have hb := B9.bytes
  have hr := B9.returns
  have hts := atoms_spec (ws := wsX6_gains) B9.pre
  have hown : s.vm.findClass RX6 = some m.cls := findClass_of_methodNamed B9.named
  have hlocks := B9.notSynchronized
  have hi6 : ∀ w ∈ wsX60, w ∈ wsX6_gains := by decide +kernel
  have hS : va_S (fun q : Nat => base ≤ q) s.heap s.heap [] := va_S.rf
  have hl := lv_entry ([.ref y, .int (nI i)]) (n := 2) (Nat.le_of_ble_eq_true rfl)
  rw [lg_entry_eq]
  generalize (lg_sl ([.ref y, .int (nI i)]) ++ List.replicate (2 - (lg_sl ([.ref y, .int (nI i)])).length) Slot.unset).toArray = ls at hl ⊢
  have hl : lv_has ls 2 [(0, .ref y), (1, .int (nI i))] := hl
  refine lv_aload_n hx hb dX6_gains_0 rfl (lv_at hl 0 rfl) ?_
  refine m_arr (f := 7) (by unfold mArr; decide) hx hb hts hi6 hown hA hH (hts (.fieldLink RX6 26 "ParoleCardsModel" "worked" "[I") (by decide +kernel)) rfl dX6_gains_1 ?_
  refine lv_iload_n hx hb dX6_gains_4 rfl (lv_at hl 1 rfl) ?_
  refine m_iald (f := 7) (v := (B 7 i)) (by unfold mArr; decide) rfl hx hb hA hH i rfl (by rw [show mLen 7 = 10 from rfl]; omega) rfl dX6_gains_5 ?_
  refine lv_iconst (v := 5) hx hb dX6_gains_6 (by decide) ?_
  refine lv_idiv hx hb dX6_gains_7 (by decide) ?_
  refine lv_aload_n hx hb dX6_gains_8 rfl (lv_at hl 0 rfl) ?_
  refine m_arr (f := 8) (by unfold mArr; decide) hx hb hts hi6 hown hA hH (hts (.fieldLink RX6 29 "ParoleCardsModel" "gained" "[I") (by decide +kernel)) rfl dX6_gains_9 ?_
  refine lv_iload_n hx hb dX6_gains_12 rfl (lv_at hl 1 rfl) ?_
  refine m_iald (f := 8) (v := (B 8 i)) (by unfold mArr; decide) rfl hx hb hA hH i rfl (by rw [show mLen 8 = 10 from rfl]; omega) rfl dX6_gains_13 ?_
  refine lv_iadd hx hb dX6_gains_14 ?_
  exact z_iret hx hb hr hlocks hH hS (by exact ⟨rfl, rfl⟩) (by decide) (by decide) dX6_gains_15
set_option maxHeartbeats 4000000 in
set_option maxRecDepth 100000 in
theorem c6_loses (l : Launch) (D : va_G) (cy : Nat → ClassId) (base : Nat) (w0 : zW) (y : Nat) (r : Nat → Nat) (B : Nat → Nat → Int32) (i : Nat) (hi : i < 10) (h10 : B 10 i = nI (oc B i)) (h50 : oc B i ≤ 50) : Met l yX6_loses wsX6_loses ({ frames := 0, cells := 0, slots := 0, locals := 0 }) (zPc D cy base (mH D cy base w0 y r) [.ref y, .int (nI i)] B) (zQi base (mH D cy base w0 y r) (fun (r0 : Int32) (u0 : Nat → Nat → Int32) => r0 = (sLoss B i) ∧ u0 = B)) 0 0 (fun q => base ≤ q) := by
  refine Met.ofW (cc := cX6_loses) (maxL := 4) (ret := (some .int)) (by decide) rfl ?_
  intro p e s m args below meth c s₁ B9 hml hv
  obtain ⟨rfl, hA, hH⟩ := hv
  have hx := B9.exec
  have hb := B9.bytes
  have hr := B9.returns
  have hts := atoms_spec (ws := wsX6_loses) B9.pre
  have hown : s.vm.findClass RX6 = some m.cls := findClass_of_methodNamed B9.named
  have hlocks := B9.notSynchronized
  have hi6 : ∀ w ∈ wsX60, w ∈ wsX6_loses := by decide +kernel
  have hS : va_S (fun q : Nat => base ≤ q) s.heap s.heap [] := va_S.rf
  have hl := lv_entry ([.ref y, .int (nI i)]) (n := 4) (Nat.le_of_ble_eq_true rfl)
  rw [lg_entry_eq]
  generalize (lg_sl ([.ref y, .int (nI i)]) ++ List.replicate (4 - (lg_sl ([.ref y, .int (nI i)])).length) Slot.unset).toArray = ls at hl ⊢
  have hl : lv_has ls 4 [(0, .ref y), (1, .int (nI i))] := hl
  refine lv_iconst (v := 0) hx hb dX6_loses_0 (by decide) ?_
  refine lv_istore_n (lv' := [(2, .int 0), (0, .ref y), (1, .int (nI i))]) hx hb dX6_loses_1 rfl hl (by decide) rfl (fun ls hl => ?_)
  refine lv_bipush (v := 50) hx hb dX6_loses_2 (by decide) ?_
  refine lv_iload_n hx hb dX6_loses_4 rfl (lv_at hl 2 rfl) ?_
  refine lv_imul hx hb dX6_loses_5 ?_
  refine lv_istore_n (lv' := [(3, .int (50 * (nI i))), (2, .int 0), (0, .ref y), (1, .int (nI i))]) hx hb dX6_loses_6 rfl hl (by decide) rfl (fun ls hl => ?_)
  have hl_1 : lv_has ls 4 [(0, .ref y), (1, .int (nI i)), (2, .int 0), (3, .int (50 * (nI i)))] := lv_sub hl [2, 3, 1, 0] rfl
  rw [show ((50 * (nI i)) : Int32) = (nI (50 * i + 0)) from (by rw [show (50 : Int32) = nI 50 from rfl, pk_mul]; rfl)] at hl_1
  have hl_1 : lv_has ls 4 [(0, .ref y), (1, .int (nI i)), (2, .int (sLo B (50 * i) 0)), (3, .int (nI (50 * i + 0)))] := hl_1
  refine z_for (nL := 4) (oc B i) (fun k u => u = B) (fun k _ => [(0, .ref y), (1, .int (nI i)), (2, .int (sLo B (50 * i) k)), (3, .int (nI (50 * i + k)))]) 0 (Nat.zero_le _) rfl hH hS hl_1 ?_ ?_
  · intro u H locs ls hu hH hS hl
    rw [hu] at hH
    refine lv_iload_n hx hb dX6_loses_7 rfl (lv_at hl 3 rfl) ?_
    refine lv_bipush (v := 50) hx hb dX6_loses_8 (by decide) ?_
    refine lv_iload_n hx hb dX6_loses_10 rfl (lv_at hl 1 rfl) ?_
    refine lv_imul hx hb dX6_loses_11 ?_
    refine lv_aload_n hx hb dX6_loses_12 rfl (lv_at hl 0 rfl) ?_
    refine m_arr (f := 10) (by unfold mArr; decide) hx hb hts hi6 hown hA hH (hts (.fieldLink RX6 35 "ParoleCardsModel" "offences" "[I") (by decide +kernel)) rfl dX6_loses_13 ?_
    refine lv_iload_n hx hb dX6_loses_16 rfl (lv_at hl 1 rfl) ?_
    refine m_iald (f := 10) (v := (B 10 i)) (by unfold mArr; decide) rfl hx hb hA hH i rfl (by rw [show mLen 10 = 10 from rfl]; omega) rfl dX6_loses_17 ?_
    refine lv_iadd hx hb dX6_loses_18 ?_
    refine lv_icmp_ge (tgt := 50) hx hb dX6_loses_19 (by decide) (fun c_2 => ?_) (fun c_2 => absurd (by rw [(show (50 * nI i) + (B 10 i) = nI (50 * i + oc B i) by rw [h10, show (50 : Int32) = nI 50 from rfl, pk_mul, nI_add])]; exact nI_le (Nat.le_refl _) (by omega)) c_2)
    refine lv_iload_n hx hb dX6_loses_50 rfl (lv_at hl 2 rfl) ?_
    exact z_iret hx hb hr hlocks hH hS (by exact ⟨rfl, rfl⟩) (by decide) (by decide) dX6_loses_51
  · intro k hk ih u H locs ls hu hH hS hl
    rw [hu] at hH
    refine lv_iload_n hx hb dX6_loses_7 rfl (lv_at hl 3 rfl) ?_
    refine lv_bipush (v := 50) hx hb dX6_loses_8 (by decide) ?_
    refine lv_iload_n hx hb dX6_loses_10 rfl (lv_at hl 1 rfl) ?_
    refine lv_imul hx hb dX6_loses_11 ?_
    refine lv_aload_n hx hb dX6_loses_12 rfl (lv_at hl 0 rfl) ?_
    refine m_arr (f := 10) (by unfold mArr; decide) hx hb hts hi6 hown hA hH (hts (.fieldLink RX6 35 "ParoleCardsModel" "offences" "[I") (by decide +kernel)) rfl dX6_loses_13 ?_
    refine lv_iload_n hx hb dX6_loses_16 rfl (lv_at hl 1 rfl) ?_
    refine m_iald (f := 10) (v := (B 10 i)) (by unfold mArr; decide) rfl hx hb hA hH i rfl (by rw [show mLen 10 = 10 from rfl]; omega) rfl dX6_loses_17 ?_
    refine lv_iadd hx hb dX6_loses_18 ?_
    refine lv_icmp_ge (tgt := 50) hx hb dX6_loses_19 (by decide) (fun c_3 => absurd c_3 (by rw [(show (50 * nI i) + (B 10 i) = nI (50 * i + oc B i) by rw [h10, show (50 : Int32) = nI 50 from rfl, pk_mul, nI_add])]; exact nI_ge (by omega) (by omega))) (fun c_3 => ?_)
    refine lv_iload_n hx hb dX6_loses_22 rfl (lv_at hl 2 rfl) ?_
    refine lv_aload_n hx hb dX6_loses_23 rfl (lv_at hl 0 rfl) ?_
    refine m_arr (f := 20) (by unfold mArr; decide) hx hb hts hi6 hown hA hH (hts (.fieldLink RX6 65 "ParoleCardsModel" "isAppealed" "[Z") (by decide +kernel)) rfl dX6_loses_24 ?_
    refine lv_iload_n hx hb dX6_loses_27 rfl (lv_at hl 3 rfl) ?_
    refine m_zald (f := 20) (v := (B 20 (50 * i + k))) (by unfold mArr; decide) rfl hx hb hA hH (50 * i + k) rfl (by rw [show mLen 20 = 500 from rfl]; omega) rfl dX6_loses_28 ?_
    refine lv_if_eq (tgt := 36) hx hb dX6_loses_29 (by decide) (fun c_4 => ?_) (fun c_4 => ?_)
    · refine lv_aload_n hx hb dX6_loses_36 rfl (lv_at hl 0 rfl) ?_
      refine m_arr (f := 17) (by unfold mArr; decide) hx hb hts hi6 hown hA hH (hts (.fieldLink RX6 56 "ParoleCardsModel" "lost" "[I") (by decide +kernel)) rfl dX6_loses_37 ?_
      refine lv_iload_n hx hb dX6_loses_40 rfl (lv_at hl 3 rfl) ?_
      refine m_iald (f := 17) (v := (B 17 (50 * i + k))) (by unfold mArr; decide) rfl hx hb hA hH (50 * i + k) rfl (by rw [show mLen 17 = 500 from rfl]; omega) rfl dX6_loses_41 ?_
      refine lv_iadd hx hb dX6_loses_42 ?_
      refine lv_istore_n (lv' := [(2, .int ((sLo B (50 * i) k) + (B 17 (50 * i + k)))), (0, .ref y), (1, .int (nI i)), (3, .int (nI (50 * i + k)))]) hx hb dX6_loses_43 rfl hl (by decide) rfl (fun ls hl => ?_)
      refine lv_iinc (v := ((nI (50 * i + k)) + 1)) (lv' := [(3, .int ((nI (50 * i + k)) + 1)), (2, .int ((sLo B (50 * i) k) + (B 17 (50 * i + k)))), (0, .ref y), (1, .int (nI i))]) hx hb dX6_loses_44 hl (k := 3) rfl rfl (by decide) rfl (fun ls hl => ?_)
      refine lv_goto (tgt := 7) hx hb dX6_loses_47 (by decide) ?_
      have hl_5 : lv_has ls 4 [(0, .ref y), (1, .int (nI i)), (2, .int ((sLo B (50 * i) k) + (B 17 (50 * i + k)))), (3, .int ((nI (50 * i + k)) + 1))] := lv_sub hl [2, 3, 1, 0] rfl
      rw [show (((sLo B (50 * i) k) + (B 17 (50 * i + k))) : Int32) = (sLo B (50 * i) (k + 1)) from (by simp [sLo, c_3, c_4])] at hl_5
      rw [show (((nI (50 * i + k)) + 1) : Int32) = (nI (50 * i + (k + 1))) from (nI_1 _)] at hl_5
      have hl_5 : lv_has ls 4 [(0, .ref y), (1, .int (nI i)), (2, .int (sLo B (50 * i) (k + 1))), (3, .int (nI (50 * i + (k + 1))))] := hl_5
      exact ih _ _ _ _ rfl hH hS hl_5
    · refine lv_iconst (v := 0) hx hb dX6_loses_32 (by decide) ?_
      refine lv_goto (tgt := 42) hx hb dX6_loses_33 (by decide) ?_
      refine lv_iadd hx hb dX6_loses_42 ?_
      refine lv_istore_n (lv' := [(2, .int ((sLo B (50 * i) k) + 0)), (0, .ref y), (1, .int (nI i)), (3, .int (nI (50 * i + k)))]) hx hb dX6_loses_43 rfl hl (by decide) rfl (fun ls hl => ?_)
      refine lv_iinc (v := ((nI (50 * i + k)) + 1)) (lv' := [(3, .int ((nI (50 * i + k)) + 1)), (2, .int ((sLo B (50 * i) k) + 0)), (0, .ref y), (1, .int (nI i))]) hx hb dX6_loses_44 hl (k := 3) rfl rfl (by decide) rfl (fun ls hl => ?_)
      refine lv_goto (tgt := 7) hx hb dX6_loses_47 (by decide) ?_
      have hl_6 : lv_has ls 4 [(0, .ref y), (1, .int (nI i)), (2, .int ((sLo B (50 * i) k) + 0)), (3, .int ((nI (50 * i + k)) + 1))] := lv_sub hl [2, 3, 1, 0] rfl
      rw [show (((sLo B (50 * i) k) + 0) : Int32) = (sLo B (50 * i) (k + 1)) from (by simp [sLo, c_3, c_4])] at hl_6
      rw [show (((nI (50 * i + k)) + 1) : Int32) = (nI (50 * i + (k + 1))) from (nI_1 _)] at hl_6
      have hl_6 : lv_has ls 4 [(0, .ref y), (1, .int (nI i)), (2, .int (sLo B (50 * i) (k + 1))), (3, .int (nI (50 * i + (k + 1))))] := hl_6
      exact ih _ _ _ _ rfl hH hS hl_6
set_option maxHeartbeats 4000000 in
set_option maxRecDepth 100000 in
theorem c6_releaseOf (l : Launch) (D : va_G) (cy : Nat → ClassId) (base : Nat) (w0 : zW) (y : Nat) (r : Nat → Nat) (B : Nat → Nat → Int32) (i : Nat) (hi : i < 10) (h10 : B 10 i = nI (oc B i)) (h50 : oc B i ≤ 50) : Met l yX6_releaseOf wsX6_releaseOf ({ frames := 1, cells := 0, slots := 0, locals := 23 }) (zPc D cy base (mH D cy base w0 y r) [.ref y, .int (nI i)] B) (zQi base (mH D cy base w0 y r) (fun (r0 : Int32) (u0 : Nat → Nat → Int32) => r0 = (sRel B i) ∧ u0 = B)) 0 0 (fun q => base ≤ q) := by
  refine Met.ofW (cc := cX6_releaseOf) (maxL := 4) (ret := (some .int)) (by decide) rfl ?_
  intro p e s m args below meth c s₁ B9 hml hv
  obtain ⟨rfl, hA, hH⟩ := hv
  have hx := B9.exec
  have hb := B9.bytes
  have hr := B9.returns
  have hts := atoms_spec (ws := wsX6_releaseOf) B9.pre
  have hown : s.vm.findClass RX6 = some m.cls := findClass_of_methodNamed B9.named
  have hlocks := B9.notSynchronized
  have hi6 : ∀ w ∈ wsX60, w ∈ wsX6_releaseOf := by decide +kernel
  have hS : va_S (fun q : Nat => base ≤ q) s.heap s.heap [] := va_S.rf
  have hl := lv_entry ([.ref y, .int (nI i)]) (n := 4) (Nat.le_of_ble_eq_true rfl)
  rw [lg_entry_eq]
  generalize (lg_sl ([.ref y, .int (nI i)]) ++ List.replicate (4 - (lg_sl ([.ref y, .int (nI i)])).length) Slot.unset).toArray = ls at hl ⊢
  have hl : lv_has ls 4 [(0, .ref y), (1, .int (nI i))] := hl
  refine lv_aload_n hx hb dX6_releaseOf_0 rfl (lv_at hl 0 rfl) ?_
  refine m_arr (f := 4) (by unfold mArr; decide) hx hb hts hi6 hown hA hH (hts (.fieldLink RX6 17 "ParoleCardsModel" "term" "[I") (by decide +kernel)) rfl dX6_releaseOf_1 ?_
  refine lv_iload_n hx hb dX6_releaseOf_4 rfl (lv_at hl 1 rfl) ?_
  refine m_iald (f := 4) (v := (B 4 i)) (by unfold mArr; decide) rfl hx hb hA hH i rfl (by rw [show mLen 4 = 10 from rfl]; omega) rfl dX6_releaseOf_5 ?_
  refine lv_iconst (v := 4) hx hb dX6_releaseOf_6 (by decide) ?_
  refine lv_idiv hx hb dX6_releaseOf_7 (by decide) ?_
  refine lv_istore_n (lv' := [(2, .int ((B 4 i) / 4)), (0, .ref y), (1, .int (nI i))]) hx hb dX6_releaseOf_8 rfl hl (by decide) rfl (fun ls hl => ?_)
  refine lv_aload_n hx hb dX6_releaseOf_9 rfl (lv_at hl 1 rfl) ?_
  refine lv_iload_n hx hb dX6_releaseOf_10 rfl (lv_at hl 2 rfl) ?_
  refine z_calli (va_runV (As := [.int (nI i)]) (rest := []) ⟨hx, hb, hml, hown, hts⟩ (c6_gains l D cy base w0 y r B i (by omega)) (cwV 1 hts gX6_releaseOf_X6_gains rfl rfl rfl (by decide +kernel) ⟨Nat.le_of_ble_eq_true rfl, Nat.le_of_ble_eq_true rfl⟩) (z_preV hA hS hH (m_recv hA hH)) rfl rfl hl.1 rfl (lv_room (Nat.le_of_ble_eq_true rfl)) dX6_releaseOf_11 ⟨Nat.le_of_ble_eq_true rfl, Nat.le_of_ble_eq_true rfl⟩) hS (fun r_k_1 u_k_1 H locs hw_k_1 hH hz_k_1 hS => ?_)
  rcases hw_k_1 with ⟨rfl, hu_k_1⟩
  rw [hu_k_1] at hH
  refine lv_iload_n hx hb dX6_releaseOf_14 rfl (lv_at hl 0 rfl) ?_
  refine lv_icmp_ge (tgt := 26) hx hb dX6_releaseOf_15 (by decide) (fun c_2 => ?_) (fun c_2 => ?_)
  · refine lv_iload_n hx hb dX6_releaseOf_26 rfl (lv_at hl 0 rfl) ?_
    refine lv_istore_n (lv' := [(3, .int ((B 4 i) / 4)), (2, .int ((B 4 i) / 4)), (0, .ref y), (1, .int (nI i))]) hx hb dX6_releaseOf_27 rfl hl (by decide) rfl (fun ls hl => ?_)
    refine lv_aload_n hx hb dX6_releaseOf_28 rfl (lv_at hl 2 rfl) ?_
    refine m_arr (f := 2) (by unfold mArr; decide) hx hb hts hi6 hown hA hH (hts (.fieldLink RX6 7 "ParoleCardsModel" "isOut" "[Z") (by decide +kernel)) rfl dX6_releaseOf_29 ?_
    refine lv_iload_n hx hb dX6_releaseOf_32 rfl (lv_at hl 3 rfl) ?_
    refine m_zald (f := 2) (v := (B 2 i)) (by unfold mArr; decide) rfl hx hb hA hH i rfl (by rw [show mLen 2 = 10 from rfl]; omega) rfl dX6_releaseOf_33 ?_
    refine lv_if_eq (tgt := 46) hx hb dX6_releaseOf_34 (by decide) (fun c_3 => ?_) (fun c_3 => ?_)
    · refine lv_aload_n hx hb dX6_releaseOf_46 rfl (lv_at hl 2 rfl) ?_
      refine m_arr (f := 3) (by unfold mArr; decide) hx hb hts hi6 hown hA hH (hts (.fieldLink RX6 13 "ParoleCardsModel" "since" "[I") (by decide +kernel)) rfl dX6_releaseOf_47 ?_
      refine lv_iload_n hx hb dX6_releaseOf_50 rfl (lv_at hl 3 rfl) ?_
      refine m_iald (f := 3) (v := (B 3 i)) (by unfold mArr; decide) rfl hx hb hA hH i rfl (by rw [show mLen 3 = 10 from rfl]; omega) rfl dX6_releaseOf_51 ?_
      refine lv_aload_n hx hb dX6_releaseOf_52 rfl (lv_at hl 2 rfl) ?_
      refine m_arr (f := 4) (by unfold mArr; decide) hx hb hts hi6 hown hA hH (hts (.fieldLink RX6 17 "ParoleCardsModel" "term" "[I") (by decide +kernel)) rfl dX6_releaseOf_53 ?_
      refine lv_iload_n hx hb dX6_releaseOf_56 rfl (lv_at hl 3 rfl) ?_
      refine m_iald (f := 4) (v := (B 4 i)) (by unfold mArr; decide) rfl hx hb hA hH i rfl (by rw [show mLen 4 = 10 from rfl]; omega) rfl dX6_releaseOf_57 ?_
      refine lv_iadd hx hb dX6_releaseOf_58 ?_
      refine lv_iload_n hx hb dX6_releaseOf_59 rfl (lv_at hl 0 rfl) ?_
      refine lv_isub hx hb dX6_releaseOf_60 ?_
      refine lv_aload_n hx hb dX6_releaseOf_61 rfl (lv_at hl 2 rfl) ?_
      refine lv_iload_n hx hb dX6_releaseOf_62 rfl (lv_at hl 3 rfl) ?_
      refine z_calli (va_runV (As := [.int (nI i)]) (rest := [.int (((B 3 i) + (B 4 i)) - ((B 4 i) / 4))]) ⟨hx, hb, hml, hown, hts⟩ (c6_loses l D cy base w0 y r B i (by omega) h10 h50) (cwV 1 hts gX6_releaseOf_X6_loses rfl rfl rfl (by decide +kernel) ⟨Nat.le_of_ble_eq_true rfl, Nat.le_of_ble_eq_true rfl⟩) (z_preV hA hS hH (m_recv hA hH)) rfl rfl hl.1 rfl (lv_room (Nat.le_of_ble_eq_true rfl)) dX6_releaseOf_63 ⟨Nat.le_of_ble_eq_true rfl, Nat.le_of_ble_eq_true rfl⟩) hS (fun r_k_4 u_k_4 H locs hw_k_4 hH hz_k_4 hS => ?_)
      rcases hw_k_4 with ⟨rfl, hu_k_4⟩
      rw [hu_k_4] at hH
      refine lv_iadd hx hb dX6_releaseOf_66 ?_
      exact z_iret hx hb hr hlocks hH hS ⟨by simp [sRel, c_2, Int32.not_lt.mpr c_2, c_3], rfl⟩ (by decide) (by decide) dX6_releaseOf_67
    · refine lv_aload_n hx hb dX6_releaseOf_37 rfl (lv_at hl 2 rfl) ?_
      refine m_arr (f := 12) (by unfold mArr; decide) hx hb hts hi6 hown hA hH (hts (.fieldLink RX6 41 "ParoleCardsModel" "released" "[I") (by decide +kernel)) rfl dX6_releaseOf_38 ?_
      refine lv_iload_n hx hb dX6_releaseOf_41 rfl (lv_at hl 3 rfl) ?_
      refine m_iald (f := 12) (v := (B 12 i)) (by unfold mArr; decide) rfl hx hb hA hH i rfl (by rw [show mLen 12 = 10 from rfl]; omega) rfl dX6_releaseOf_42 ?_
      refine lv_goto (tgt := 67) hx hb dX6_releaseOf_43 (by decide) ?_
      exact z_iret hx hb hr hlocks hH hS ⟨by simp [sRel, c_2, Int32.not_lt.mpr c_2, c_3], rfl⟩ (by decide) (by decide) dX6_releaseOf_67
  · refine lv_aload_n hx hb dX6_releaseOf_18 rfl (lv_at hl 1 rfl) ?_
    refine lv_iload_n hx hb dX6_releaseOf_19 rfl (lv_at hl 2 rfl) ?_
    refine z_calli (va_runV (As := [.int (nI i)]) (rest := []) ⟨hx, hb, hml, hown, hts⟩ (c6_gains l D cy base w0 y r B i (by omega)) (cwV 1 hts gX6_releaseOf_X6_gains rfl rfl rfl (by decide +kernel) ⟨Nat.le_of_ble_eq_true rfl, Nat.le_of_ble_eq_true rfl⟩) (z_preV hA hS hH (m_recv hA hH)) rfl rfl hl.1 rfl (lv_room (Nat.le_of_ble_eq_true rfl)) dX6_releaseOf_20 ⟨Nat.le_of_ble_eq_true rfl, Nat.le_of_ble_eq_true rfl⟩) hS (fun r_k_5 u_k_5 H locs hw_k_5 hH hz_k_5 hS => ?_)
    rcases hw_k_5 with ⟨rfl, hu_k_5⟩
    rw [hu_k_5] at hH
    refine lv_goto (tgt := 27) hx hb dX6_releaseOf_23 (by decide) ?_
    refine lv_istore_n (lv' := [(3, .int (sGain B i)), (2, .int ((B 4 i) / 4)), (0, .ref y), (1, .int (nI i))]) hx hb dX6_releaseOf_27 rfl hl (by decide) rfl (fun ls hl => ?_)
    refine lv_aload_n hx hb dX6_releaseOf_28 rfl (lv_at hl 2 rfl) ?_
    refine m_arr (f := 2) (by unfold mArr; decide) hx hb hts hi6 hown hA hH (hts (.fieldLink RX6 7 "ParoleCardsModel" "isOut" "[Z") (by decide +kernel)) rfl dX6_releaseOf_29 ?_
    refine lv_iload_n hx hb dX6_releaseOf_32 rfl (lv_at hl 3 rfl) ?_
    refine m_zald (f := 2) (v := (B 2 i)) (by unfold mArr; decide) rfl hx hb hA hH i rfl (by rw [show mLen 2 = 10 from rfl]; omega) rfl dX6_releaseOf_33 ?_
    refine lv_if_eq (tgt := 46) hx hb dX6_releaseOf_34 (by decide) (fun c_6 => ?_) (fun c_6 => ?_)
    · refine lv_aload_n hx hb dX6_releaseOf_46 rfl (lv_at hl 2 rfl) ?_
      refine m_arr (f := 3) (by unfold mArr; decide) hx hb hts hi6 hown hA hH (hts (.fieldLink RX6 13 "ParoleCardsModel" "since" "[I") (by decide +kernel)) rfl dX6_releaseOf_47 ?_
      refine lv_iload_n hx hb dX6_releaseOf_50 rfl (lv_at hl 3 rfl) ?_
      refine m_iald (f := 3) (v := (B 3 i)) (by unfold mArr; decide) rfl hx hb hA hH i rfl (by rw [show mLen 3 = 10 from rfl]; omega) rfl dX6_releaseOf_51 ?_
      refine lv_aload_n hx hb dX6_releaseOf_52 rfl (lv_at hl 2 rfl) ?_
      refine m_arr (f := 4) (by unfold mArr; decide) hx hb hts hi6 hown hA hH (hts (.fieldLink RX6 17 "ParoleCardsModel" "term" "[I") (by decide +kernel)) rfl dX6_releaseOf_53 ?_
      refine lv_iload_n hx hb dX6_releaseOf_56 rfl (lv_at hl 3 rfl) ?_
      refine m_iald (f := 4) (v := (B 4 i)) (by unfold mArr; decide) rfl hx hb hA hH i rfl (by rw [show mLen 4 = 10 from rfl]; omega) rfl dX6_releaseOf_57 ?_
      refine lv_iadd hx hb dX6_releaseOf_58 ?_
      refine lv_iload_n hx hb dX6_releaseOf_59 rfl (lv_at hl 0 rfl) ?_
      refine lv_isub hx hb dX6_releaseOf_60 ?_
      refine lv_aload_n hx hb dX6_releaseOf_61 rfl (lv_at hl 2 rfl) ?_
      refine lv_iload_n hx hb dX6_releaseOf_62 rfl (lv_at hl 3 rfl) ?_
      refine z_calli (va_runV (As := [.int (nI i)]) (rest := [.int (((B 3 i) + (B 4 i)) - (sGain B i))]) ⟨hx, hb, hml, hown, hts⟩ (c6_loses l D cy base w0 y r B i (by omega) h10 h50) (cwV 1 hts gX6_releaseOf_X6_loses rfl rfl rfl (by decide +kernel) ⟨Nat.le_of_ble_eq_true rfl, Nat.le_of_ble_eq_true rfl⟩) (z_preV hA hS hH (m_recv hA hH)) rfl rfl hl.1 rfl (lv_room (Nat.le_of_ble_eq_true rfl)) dX6_releaseOf_63 ⟨Nat.le_of_ble_eq_true rfl, Nat.le_of_ble_eq_true rfl⟩) hS (fun r_k_7 u_k_7 H locs hw_k_7 hH hz_k_7 hS => ?_)
      rcases hw_k_7 with ⟨rfl, hu_k_7⟩
      rw [hu_k_7] at hH
      refine lv_iadd hx hb dX6_releaseOf_66 ?_
      exact z_iret hx hb hr hlocks hH hS ⟨by simp [sRel, c_2, Int32.not_le.mp c_2, c_6], rfl⟩ (by decide) (by decide) dX6_releaseOf_67
    · refine lv_aload_n hx hb dX6_releaseOf_37 rfl (lv_at hl 2 rfl) ?_
      refine m_arr (f := 12) (by unfold mArr; decide) hx hb hts hi6 hown hA hH (hts (.fieldLink RX6 41 "ParoleCardsModel" "released" "[I") (by decide +kernel)) rfl dX6_releaseOf_38 ?_
      refine lv_iload_n hx hb dX6_releaseOf_41 rfl (lv_at hl 3 rfl) ?_
      refine m_iald (f := 12) (v := (B 12 i)) (by unfold mArr; decide) rfl hx hb hA hH i rfl (by rw [show mLen 12 = 10 from rfl]; omega) rfl dX6_releaseOf_42 ?_
      refine lv_goto (tgt := 67) hx hb dX6_releaseOf_43 (by decide) ?_
      exact z_iret hx hb hr hlocks hH hS ⟨by simp [sRel, c_2, Int32.not_le.mp c_2, c_6], rfl⟩ (by decide) (by decide) dX6_releaseOf_67
set_option maxHeartbeats 4000000 in
set_option maxRecDepth 100000 in
theorem c6_raises (l : Launch) (D : va_G) (cy : Nat → ClassId) (base : Nat) (w0 : zW) (y : Nat) (r : Nat → Nat) (B : Nat → Nat → Int32) (i : Nat) (hi : i < 10) : Met l yX6_raises wsX6_raises ({ frames := 0, cells := 0, slots := 0, locals := 0 }) (zPc D cy base (mH D cy base w0 y r) [.ref y, .int (nI i)] B) (zQv base (mH D cy base w0 y r) (fun (u0 : Nat → Nat → Int32) => u0 = (sRaise B i))) 0 0 (fun q => base ≤ q) := by
  refine Met.ofW (cc := cX6_raises) (maxL := 2) (ret := none) (by decide) rfl ?_
  intro p e s m args below meth c s₁ B9 hml hv
  obtain ⟨rfl, hA, hH⟩ := hv
  have hx := B9.exec
  have hb := B9.bytes
  have hr := B9.returns
  have hts := atoms_spec (ws := wsX6_raises) B9.pre
  have hown : s.vm.findClass RX6 = some m.cls := findClass_of_methodNamed B9.named
  have hlocks := B9.notSynchronized
  have hi6 : ∀ w ∈ wsX60, w ∈ wsX6_raises := by decide +kernel
  have hS : va_S (fun q : Nat => base ≤ q) s.heap s.heap [] := va_S.rf
  have hl := lv_entry ([.ref y, .int (nI i)]) (n := 2) (Nat.le_of_ble_eq_true rfl)
  rw [lg_entry_eq]
  generalize (lg_sl ([.ref y, .int (nI i)]) ++ List.replicate (2 - (lg_sl ([.ref y, .int (nI i)])).length) Slot.unset).toArray = ls at hl ⊢
  have hl : lv_has ls 2 [(0, .ref y), (1, .int (nI i))] := hl
  refine lv_aload_n hx hb dX6_raises_0 rfl (lv_at hl 0 rfl) ?_
  refine m_arr (f := 6) (by unfold mArr; decide) hx hb hts hi6 hown hA hH (hts (.fieldLink RX6 23 "ParoleCardsModel" "regime" "[I") (by decide +kernel)) rfl dX6_raises_1 ?_
  refine lv_iload_n hx hb dX6_raises_4 rfl (lv_at hl 1 rfl) ?_
  refine lv_dup2_11 hx hb dX6_raises_5 rfl rfl ?_
  refine m_iald (f := 6) (v := (B 6 i)) (by unfold mArr; decide) rfl hx hb hA hH i rfl (by rw [show mLen 6 = 10 from rfl]; omega) rfl dX6_raises_6 ?_
  refine lv_aload_n hx hb dX6_raises_7 rfl (lv_at hl 0 rfl) ?_
  refine m_arr (f := 6) (by unfold mArr; decide) hx hb hts hi6 hown hA hH (hts (.fieldLink RX6 23 "ParoleCardsModel" "regime" "[I") (by decide +kernel)) rfl dX6_raises_8 ?_
  refine lv_iload_n hx hb dX6_raises_11 rfl (lv_at hl 1 rfl) ?_
  refine m_iald (f := 6) (v := (B 6 i)) (by unfold mArr; decide) rfl hx hb hA hH i rfl (by rw [show mLen 6 = 10 from rfl]; omega) rfl dX6_raises_12 ?_
  refine lv_iconst (v := 2) hx hb dX6_raises_13 (by decide) ?_
  refine lv_icmp_ge (tgt := 21) hx hb dX6_raises_14 (by decide) (fun c_1 => ?_) (fun c_1 => ?_)
  · refine lv_iconst (v := 0) hx hb dX6_raises_21 (by decide) ?_
    refine lv_iadd hx hb dX6_raises_22 ?_
    refine m_iast (f := 6) (by unfold mArr; decide) rfl hx hb hA hH hS i rfl (by rw [show mLen 6 = 10 from rfl]; omega) dX6_raises_23 (fun H locs hH hS => ?_)
    exact z_vret hx hb hr hlocks hH hS (by simp [sRaise, c_1, Int32.not_lt.mpr c_1]) (by decide) (by decide) dX6_raises_24
  · refine lv_iconst (v := 1) hx hb dX6_raises_17 (by decide) ?_
    refine lv_goto (tgt := 22) hx hb dX6_raises_18 (by decide) ?_
    refine lv_iadd hx hb dX6_raises_22 ?_
    refine m_iast (f := 6) (by unfold mArr; decide) rfl hx hb hA hH hS i rfl (by rw [show mLen 6 = 10 from rfl]; omega) dX6_raises_23 (fun H locs hH hS => ?_)
    exact z_vret hx hb hr hlocks hH hS (by simp [sRaise, c_1, Int32.not_le.mp c_1]) (by decide) (by decide) dX6_raises_24
end
section
/-! THE OPERATIONS: which throw (cd, 0: none), the state behind (up), the answer (an) -/
theorem mInv_27 {B : mB} (h : mInv B) (v : Int32) : mInv (z2 B 27 0 v) := h
def mSame (X Y : mB) : Prop := Y 1 0 = X 1 0 ∧ Y 22 0 = X 22 0 ∧ (∀ i, Y 10 i = X 10 i) ∧ (∀ i, Y 9 i = X 9 i) ∧ (∀ i, Y 11 i = X 11 i ∨ Y 11 i = -1) ∧ (∀ j, Y 24 j = X 24 j) ∧ (∀ j, Y 23 j = X 23 j)
theorem mSame_rf (X : mB) : mSame X X := ⟨rfl, rfl, fun _ => rfl, fun _ => rfl, fun _ => Or.inl rfl, fun _ => rfl, fun _ => rfl⟩
theorem mSame_tr {X Y Z : mB} (h : mSame X Y) (k : mSame Y Z) : mSame X Z := by
  obtain ⟨a1, a2, a3, a4, a5, a6, a7⟩ := h
  obtain ⟨b1, b2, b3, b4, b5, b6, b7⟩ := k
  refine ⟨b1.trans a1, b2.trans a2, fun i => (b3 i).trans (a3 i), fun i => (b4 i).trans (a4 i), fun i => ?_, fun j => (b6 j).trans (a6 j), fun j => (b7 j).trans (a7 j)⟩
  rcases b5 i with h | h
  · rw [h]; exact a5 i
  · exact Or.inr h
theorem mInv_same {X Y : mB} (h : mInv X) (k : mSame X Y) : mInv Y ∧ nP Y = nP X ∧ nO Y = nO X := by
  obtain ⟨h1, h2, h3, h4⟩ := h
  obtain ⟨b1, b2, b3, b4, b5, b6, b7⟩ := k
  have e1 : nP Y = nP X := by unfold nP; rw [b1]
  have e2 : nO Y = nO X := by unfold nO; rw [b2]
  refine ⟨⟨by rw [e1, b1]; exact h1, by rw [e2, b2]; exact h2, fun i hi => ?_, fun j hj => ?_⟩, e1, e2⟩
  · rw [e1] at hi
    obtain ⟨q1, q2, q3, q4, q5⟩ := h3 i hi
    have o1 : oc Y i = oc X i := by unfold oc; rw [b3]
    have o2 : pp Y i = pp X i := by unfold pp; rw [b4]
    refine ⟨by rw [b3, o1]; exact q1, by rw [b4, o2]; exact q2, by rw [o1, o2]; exact q3, by rw [o2]; exact q4, ?_⟩
    rcases b5 i with h | h
    · have o3 : ox Y i = ox X i := by unfold ox; rw [h]
      rw [h, o3, e2]; exact q5
    · exact Or.inl h
  · rw [e2] at hj
    have o1 : kx Y j = kx X j := by unfold kx; rw [b6]
    have o2 : sx Y j = sx X j := by unfold sx; rw [b7]
    rw [b6, b7, o1, o2]; exact h4 j hj
def sWork (X : mB) (i : Nat) : mB := if X 11 i = -1 ∨ X 25 (ox X i) = 0 then X else
  z2 (z2 (z2 (z2 (z2 (z2 X 25 (ox X i) (X 25 (ox X i) - 1)) 7 i (X 7 i + 1)) 14 (4 * i + 0) (X 14 (4 * i + 0) + X 26 (ox X i) * 30 / 100)) 14 (4 * i + 1) (X 14 (4 * i + 1) + X 26 (ox X i) * 20 / 100)) 14 (4 * i + 2) (X 14 (4 * i + 2) + X 26 (ox X i) * 30 / 100)) 14 (4 * i + 3) (X 14 (4 * i + 3) + (X 26 (ox X i) - X 26 (ox X i) * 30 / 100 - X 26 (ox X i) * 20 / 100 - X 26 (ox X i) * 30 / 100))
def sWorks (X : mB) : Nat → mB
  | 0 => X
  | k + 1 => sWork (sWorks X k) k
def sLeave (X : mB) (i : Nat) : mB := z2 X 11 i (if X 11 i = -1 then -1 else if X 25 (ox X i) = 0 then -1 else X 11 i)
def sLeaves (X : mB) : Nat → mB
  | 0 => X
  | k + 1 => sLeave (sLeaves X k) k
def sStays (X : mB) (i : Nat) : Prop := X 2 i ≠ 0 ∨ ¬ sRel X i ≤ X 0 0
def sGo (X : mB) (i : Nat) : mB := if X 2 i = 0 then (if sRel X i ≤ X 0 0 then
  z2 (z2 (z2 (z2 (z2 (z2 X 2 i 1) 12 i (X 0 0)) 11 i (-1)) 13 i (X 14 (4 * i + 2) + X 14 (4 * i + 3))) 14 (4 * i + 2) 0) 14 (4 * i + 3) 0 else X) else X
def sGoN (X : mB) (i : Nat) : Int32 := if X 2 i = 0 then (if sRel X i ≤ X 0 0 then 1 else 0) else 0
def sGoes (X : mB) : Nat → mB
  | 0 => X
  | k + 1 => sGo (sGoes X k) k
/-- how many are released, n counted before -/
def sGoesN (X : mB) (n : Int32) : Nat → Int32
  | 0 => n
  | k + 1 => sGoesN X n k + sGoN (sGoes X k) k
def sTick (X : mB) : mB := z2 X 0 0 (X 0 0 + 1)
/-- a day's work and leaving, and the new day -/
def sMorn (X : mB) : mB := sTick (sLeaves (sWorks X (nP X)) (nP X))
def sDay (X : mB) : mB := sGoes (sMorn X) (nP X)
def sDays (X : mB) : Nat → mB
  | 0 => X
  | d + 1 => sDay (sDays X d)
def sDaysN (X : mB) : Nat → Int32
  | 0 => 0
  | d + 1 => sGoesN (sMorn (sDays X d)) (sDaysN X d) (nP (sDays X d))
theorem sWork_same (X : mB) (i : Nat) : mSame X (sWork X i) := by
  unfold sWork; split
  · exact mSame_rf X
  · exact ⟨rfl, rfl, fun _ => rfl, fun _ => rfl, fun _ => Or.inl rfl, fun _ => rfl, fun _ => rfl⟩
theorem sLeave_same (X : mB) (i : Nat) : mSame X (sLeave X i) := by
  refine ⟨rfl, rfl, fun _ => rfl, fun _ => rfl, fun k => ?_, fun _ => rfl, fun _ => rfl⟩
  unfold sLeave
  rw [z2_at]
  by_cases h : k = i
  · subst h; rw [if_pos rfl]; split
    · exact Or.inr rfl
    · split
      · exact Or.inr rfl
      · exact Or.inl rfl
  · rw [if_neg h]; exact Or.inl rfl
theorem sGo_same (X : mB) (i : Nat) : mSame X (sGo X i) := by
  unfold sGo; split
  · split
    · refine ⟨rfl, rfl, fun _ => rfl, fun _ => rfl, fun k => ?_, fun _ => rfl, fun _ => rfl⟩
      show z2 X 11 i (-1) 11 k = X 11 k ∨ z2 X 11 i (-1) 11 k = -1
      rw [z2_at]
      by_cases h : k = i
      · rw [if_pos h]; exact Or.inr rfl
      · rw [if_neg h]; exact Or.inl rfl
    · exact mSame_rf X
  · exact mSame_rf X
theorem sTick_same (X : mB) : mSame X (sTick X) := ⟨rfl, rfl, fun _ => rfl, fun _ => rfl, fun _ => Or.inl rfl, fun _ => rfl, fun _ => rfl⟩
theorem sWorks_same (X : mB) : ∀ k, mSame X (sWorks X k)
  | 0 => mSame_rf X
  | k + 1 => mSame_tr (sWorks_same X k) (sWork_same _ k)
theorem sLeaves_same (X : mB) : ∀ k, mSame X (sLeaves X k)
  | 0 => mSame_rf X
  | k + 1 => mSame_tr (sLeaves_same X k) (sLeave_same _ k)
theorem sGoes_same (X : mB) : ∀ k, mSame X (sGoes X k)
  | 0 => mSame_rf X
  | k + 1 => mSame_tr (sGoes_same X k) (sGo_same _ k)
theorem sMorn_same (X : mB) : mSame X (sMorn X) := mSame_tr (mSame_tr (sWorks_same X _) (sLeaves_same _ _)) (sTick_same _)
theorem sDays_same (X : mB) : ∀ k, mSame X (sDays X k)
  | 0 => mSame_rf X
  | k + 1 => mSame_tr (sDays_same X k) (mSame_tr (sMorn_same _) (sGoes_same _ _))
def cd_admit (B : mB) (d k : Int32) : Int32 := if vLies d 1 2000 = true ∧ vLies k 0 15 = true then (if B 1 0 = 10 then 2 else 0) else 1
def up_admit (X : mB) (d k : Int32) : mB := z2 (z2 (z2 (z2 (z2 (z2 X 3 (nP X) (X 0 0)) 4 (nP X) d) 5 (nP X) k) 6 (nP X) 1) 11 (nP X) (-1)) 1 0 (X 1 0 + 1)
def an_admit (X : mB) : Int32 := X 1 0 + 1 - 1
def cd_course (B : mB) (its what days : Int32) : Int32 := if vP B its = true ∧ vLies what 0 3 = true then (if vLies days 0 100 = true then (if B 2 (ix its) = 0 then (if B 9 (ix its) = 50 then 3 else 0) else 3) else 2) else 1
def up_course (X : mB) (its what days : Int32) : mB := sRaise (z2 (z2 (z2 X 5 (ix its) (X 5 (ix its) ||| (1 <<< (what &&& 31)))) 8 (ix its) (X 8 (ix its) + days)) 9 (ix its) (X 9 (ix its) + 1)) (ix its)
def an_course (X : mB) (its what days : Int32) : Int32 := sRel (up_course X its what days) (ix its)
def cd_offence (B : mB) (its days : Int32) : Int32 := if vP B its = true then (if vLies days 0 100 = true then (if B 2 (ix its) = 0 then (if B 9 (ix its) = 50 then 3 else 0) else 3) else 2) else 1
def up_offence (X : mB) (its days : Int32) : mB := z2 (z2 (z2 (z2 (z2 (z2 (z2 (z2 X 17 (50 * ix its + oc X (ix its)) days) 18 (50 * ix its + oc X (ix its)) (X 0 0)) 19 (50 * ix its + oc X (ix its)) (if 0 < X 6 (ix its) then 1 else 0)) 20 (50 * ix its + oc X (ix its)) 0) 6 (ix its) (X 6 (ix its) - (if 0 < X 6 (ix its) then 1 else 0))) 11 (ix its) (-1)) 9 (ix its) (X 9 (ix its) + 1)) 10 (ix its) (X 10 (ix its) + 1)
def an_offence (X : mB) (its : Int32) : Int32 := X 10 (ix its) + 1 - 1
def cd_appeal (B : mB) (its which : Int32) : Int32 := if vP B its = true ∧ vLies which 0 (B 10 (ix its) - 1) = true then (if B 2 (ix its) = 0 then (if B 20 (50 * ix its + ix which) = 0 then 0 else 2) else 2) else 1
def up_appeal (X : mB) (its which : Int32) : mB := if X 19 (50 * ix its + ix which) = 0 then z2 X 20 (50 * ix its + ix which) 1 else sRaise (z2 X 20 (50 * ix its + ix which) 1) (ix its)
def an_appeal (X : mB) (its which : Int32) : Int32 := sRel (up_appeal X its which) (ix its)
def cd_P (B : mB) (its : Int32) : Int32 := if vP B its = true then 0 else 1
def up_0 (X : mB) : mB := X
def an_release (X : mB) (its : Int32) : Int32 := sRel X (ix its)
def an_isIn (X : mB) (its : Int32) : Int32 := if X 2 (ix its) = 0 then 1 else 0
def an_of (X : mB) (f : Nat) (its : Int32) : Int32 := X f (ix its)
def an_papers (X : mB) (its lost : Int32) : Int32 := if lost = 0 then sGain X (ix its) else sLoss X (ix its)
def cd_setTools (B : mB) (k n : Int32) : Int32 := if vLies k 0 2 = true then (if vLies n 0 20 = true then (if n < sOut B k (nP B) then 3 else 0) else 2) else 1
def up_setTools (X : mB) (k n : Int32) : mB := z2 X 21 (ix k) n
def an_setTools (X : mB) (k : Int32) : Int32 := X 21 (ix k)
def cd_K (_ : mB) (k : Int32) : Int32 := if vLies k 0 2 = true then 0 else 1
def an_toolsOut (X : mB) (k : Int32) : Int32 := sOut X k (nP X)
def cd_addOrder (B : mB) (s k w g : Int32) : Int32 := if vLies s 0 3 = true ∧ vLies k 0 2 = true then (if vLies w 1 500 = true ∧ vLies g 0 1000 = true then (if B 22 0 = 8 then 3 else 0) else 2) else 1
def up_addOrder (X : mB) (s k w g : Int32) : mB := z2 (z2 (z2 (z2 (z2 X 23 (nO X) s) 24 (nO X) k) 25 (nO X) w) 26 (nO X) g) 22 0 (X 22 0 + 1)
def an_addOrder (X : mB) : Int32 := X 22 0 + 1 - 1
def cd_assign (B : mB) (its o : Int32) : Int32 := if vP B its = true ∧ vO B o = true then (if B 2 (ix its) = 0 then (if B 11 (ix its) = -1 then (if (B 5 (ix its) >>> (B 23 (ix o) &&& 31)) &&& 1 = 1 then (if 0 < B 25 (ix o) then (if sOut B (B 24 (ix o)) (nP B) < B 21 (kx B (ix o)) then 0 else 2) else 2) else 2) else 2) else 2) else 1
def up_assign (X : mB) (its o : Int32) : mB := z2 X 11 (ix its) o
def an_assign (X : mB) (its o : Int32) : Int32 := sOn (up_assign X its o) o (nP X)
def cd_takeOff (B : mB) (its : Int32) : Int32 := if vP B its = true then (if B 11 (ix its) = -1 then 2 else 0) else 1
def up_takeOff (X : mB) (its : Int32) : mB := z2 X 11 (ix its) (-1)
def cd_O (B : mB) (o : Int32) : Int32 := if vO B o = true then 0 else 1
def cd_account (B : mB) (its a : Int32) : Int32 := if vP B its = true ∧ vLies a 0 3 = true then 0 else 1
def an_account (X : mB) (its a : Int32) : Int32 := X 14 (4 * ix its + ix a)
def cd_buy (B : mB) (its a : Int32) : Int32 := if vP B its = true then (if vLies a 1 1000 = true then (if B 2 (ix its) = 0 then (if a ≤ B 14 (4 * ix its + 3) then (if a ≤ sRest B (ix its) then 0 else 3) else 3) else 3) else 2) else 1
def up_buy (X : mB) (its a : Int32) : mB := z2 (z2 (z2 X 16 (ix its) (sBought X (ix its) + a)) 15 (ix its) (X 0 0 / 7)) 14 (4 * ix its + 3) (X 14 (4 * ix its + 3) - a)
def an_buy (X : mB) (its a : Int32) : Int32 := X 14 (4 * ix its + 3) - a
def an_limit (X : mB) (its : Int32) : Int32 := sRest X (ix its)
def cd_pass (_ : mB) (d : Int32) : Int32 := if vLies d 1 100 = true then 0 else 1
def up_pass (X : mB) (d : Int32) : mB := sDays X (ix d)
def an_pass (X : mB) (d : Int32) : Int32 := sDaysN X (ix d)
theorem mInv_lt {B : mB} (h : mInv B) (c : ¬ B 1 0 = 10) : nP B < 10 := by
  rcases Nat.lt_or_ge (nP B) 10 with q | q
  · exact q
  · have e : nP B = 10 := Nat.le_antisymm h.1.1 q
    exact absurd (by rw [h.1.2, e]; rfl) c
theorem mInv_ltO {B : mB} (h : mInv B) (c : ¬ B 22 0 = 8) : nO B < 8 := by
  rcases Nat.lt_or_ge (nO B) 8 with q | q
  · exact q
  · have e : nO B = 8 := Nat.le_antisymm h.2.1.1 q
    exact absurd (by rw [h.2.1.2, e]; rfl) c
theorem mInv_oc {B : mB} (h : mInv B) {i : Nat} (hi : i < nP B) (c : ¬ B 9 i = 50) : oc B i < 50 := by
  obtain ⟨q1, q2, q3, q4, q5⟩ := h.2.2.1 i hi
  rcases Nat.lt_or_ge (pp B i) 50 with q | q
  · omega
  · have e : pp B i = 50 := Nat.le_antisymm q4 q
    exact absurd (by rw [q2, e]; rfl) c
theorem mInv_ox {B : mB} (h : mInv B) {i : Nat} (hi : i < nP B) : B 11 i = -1 ∨ (B 11 i = nI (ox B i) ∧ ox B i < 8) := by
  obtain ⟨q1, q2, q3, q4, q5⟩ := h.2.2.1 i hi
  have := h.2.1.1
  rcases q5 with q | ⟨q, q'⟩
  · exact Or.inl q
  · exact Or.inr ⟨q, by omega⟩
theorem mInv_oc50 {B : mB} (h : mInv B) {i : Nat} (hi : i < nP B) : B 10 i = nI (oc B i) ∧ oc B i ≤ 50 := by
  obtain ⟨q1, q2, q3, q4, q5⟩ := h.2.2.1 i hi
  exact ⟨q1, by omega⟩
theorem mInv_kx {B : mB} (h : mInv B) {j : Nat} (hj : j < nO B) : B 24 j = nI (kx B j) ∧ kx B j < 3 := ⟨(h.2.2.2 j hj).1, (h.2.2.2 j hj).2.1⟩
theorem mInv_P10 {B : mB} (h : mInv B) {i : Nat} (hi : i < nP B) : i < 10 := Nat.lt_of_lt_of_le hi h.1.1
theorem vDays_split (d : Int32) : (∃ q, d = nI q ∧ q ≤ 100 ∧ vLies (nI q) 1 100 = true ∧ ix (nI q) = q) ∨ vLies d 1 100 = false := by
  by_cases c : vLies d 1 100 = true
  · have c0 := c
    unfold vLies at c
    simp only [Bool.and_eq_true, decide_eq_true_eq, Int32.lt_iff_toInt_lt] at c
    have h1 : (1 : Int32).toInt = 1 := rfl
    have h100 : (100 : Int32).toInt = 100 := rfl
    rw [h1, h100] at c
    obtain ⟨j, hj, rfl⟩ := nI_of (x := d) (by rw [Int32.lt_iff_toInt_lt, Int32.toInt_zero]; omega)
    rw [nI_toInt hj] at c
    exact Or.inl ⟨j, rfl, by omega, c0, ix_nI hj⟩
  · exact Or.inr (by simpa using c)
theorem vLies_01 {v a b : Int32} : vLies v a b = true ∨ vLies v a b = false := by cases vLies v a b <;> simp
theorem z27_0 (B : mB) (v : Int32) (j : Nat) : z2 B 27 0 v 0 j = B 0 j := rfl
theorem z27_1 (B : mB) (v : Int32) (j : Nat) : z2 B 27 0 v 1 j = B 1 j := rfl
theorem z27_2 (B : mB) (v : Int32) (j : Nat) : z2 B 27 0 v 2 j = B 2 j := rfl
theorem z27_3 (B : mB) (v : Int32) (j : Nat) : z2 B 27 0 v 3 j = B 3 j := rfl
theorem z27_4 (B : mB) (v : Int32) (j : Nat) : z2 B 27 0 v 4 j = B 4 j := rfl
theorem z27_5 (B : mB) (v : Int32) (j : Nat) : z2 B 27 0 v 5 j = B 5 j := rfl
theorem z27_6 (B : mB) (v : Int32) (j : Nat) : z2 B 27 0 v 6 j = B 6 j := rfl
theorem z27_7 (B : mB) (v : Int32) (j : Nat) : z2 B 27 0 v 7 j = B 7 j := rfl
theorem z27_8 (B : mB) (v : Int32) (j : Nat) : z2 B 27 0 v 8 j = B 8 j := rfl
theorem z27_9 (B : mB) (v : Int32) (j : Nat) : z2 B 27 0 v 9 j = B 9 j := rfl
theorem z27_10 (B : mB) (v : Int32) (j : Nat) : z2 B 27 0 v 10 j = B 10 j := rfl
theorem z27_11 (B : mB) (v : Int32) (j : Nat) : z2 B 27 0 v 11 j = B 11 j := rfl
theorem z27_12 (B : mB) (v : Int32) (j : Nat) : z2 B 27 0 v 12 j = B 12 j := rfl
theorem z27_13 (B : mB) (v : Int32) (j : Nat) : z2 B 27 0 v 13 j = B 13 j := rfl
theorem z27_14 (B : mB) (v : Int32) (j : Nat) : z2 B 27 0 v 14 j = B 14 j := rfl
theorem z27_15 (B : mB) (v : Int32) (j : Nat) : z2 B 27 0 v 15 j = B 15 j := rfl
theorem z27_16 (B : mB) (v : Int32) (j : Nat) : z2 B 27 0 v 16 j = B 16 j := rfl
theorem z27_17 (B : mB) (v : Int32) (j : Nat) : z2 B 27 0 v 17 j = B 17 j := rfl
theorem z27_18 (B : mB) (v : Int32) (j : Nat) : z2 B 27 0 v 18 j = B 18 j := rfl
theorem z27_19 (B : mB) (v : Int32) (j : Nat) : z2 B 27 0 v 19 j = B 19 j := rfl
theorem z27_20 (B : mB) (v : Int32) (j : Nat) : z2 B 27 0 v 20 j = B 20 j := rfl
theorem z27_21 (B : mB) (v : Int32) (j : Nat) : z2 B 27 0 v 21 j = B 21 j := rfl
theorem z27_22 (B : mB) (v : Int32) (j : Nat) : z2 B 27 0 v 22 j = B 22 j := rfl
theorem z27_23 (B : mB) (v : Int32) (j : Nat) : z2 B 27 0 v 23 j = B 23 j := rfl
theorem z27_24 (B : mB) (v : Int32) (j : Nat) : z2 B 27 0 v 24 j = B 24 j := rfl
theorem z27_25 (B : mB) (v : Int32) (j : Nat) : z2 B 27 0 v 25 j = B 25 j := rfl
theorem z27_26 (B : mB) (v : Int32) (j : Nat) : z2 B 27 0 v 26 j = B 26 j := rfl
theorem z27_oc (B : mB) (v : Int32) (i : Nat) : oc (z2 B 27 0 v) i = oc B i := rfl
theorem z27_ox (B : mB) (v : Int32) (i : Nat) : ox (z2 B 27 0 v) i = ox B i := rfl
theorem z27_kx (B : mB) (v : Int32) (i : Nat) : kx (z2 B 27 0 v) i = kx B i := rfl
theorem z27_nP (B : mB) (v : Int32) : nP (z2 B 27 0 v) = nP B := rfl
theorem z27_nO (B : mB) (v : Int32) : nO (z2 B 27 0 v) = nO B := rfl
end
section
set_option maxHeartbeats 4000000 in
set_option maxRecDepth 100000 in
theorem c6_of6_t (l : Launch) (D : va_G) (cy : Nat → ClassId) (base : Nat) (w0 : zW) (y : Nat) (r : Nat → Nat) (B : Nat → Nat → Int32) (i : Nat) (hi : i < 10) (h9 : vP B (nI i) = true) : Met l yX6_of wsX6_of ({ frames := 2, cells := 0, slots := 0, locals := 43 }) (zPc D cy base (mH D cy base w0 y r) [.ref y, .ref (r 6), .int (nI i)] B) (zQi base (mH D cy base w0 y r) (fun (r0 : Int32) (u0 : Nat → Nat → Int32) => r0 = (B 6 i) ∧ u0 = (z2 B 27 0 0))) 0 0 (fun q => base ≤ q) := by
  refine Met.ofW (cc := cX6_of) (maxL := 3) (ret := (some .int)) (by decide) rfl ?_
  intro p e s m args below meth c s₁ B9 hml hv
  obtain ⟨rfl, hA, hH⟩ := hv
  have hx := B9.exec
  have hb := B9.bytes
  have hr := B9.returns
  have hts := atoms_spec (ws := wsX6_of) B9.pre
  have hown : s.vm.findClass RX6 = some m.cls := findClass_of_methodNamed B9.named
  have hlocks := B9.notSynchronized
  have hS : va_S (fun q : Nat => base ≤ q) s.heap s.heap [] := va_S.rf
  have hl := lv_entry ([.ref y, .ref (r 6), .int (nI i)]) (n := 3) (Nat.le_of_ble_eq_true rfl)
  rw [lg_entry_eq]
  generalize (lg_sl ([.ref y, .ref (r 6), .int (nI i)]) ++ List.replicate (3 - (lg_sl ([.ref y, .ref (r 6), .int (nI i)])).length) Slot.unset).toArray = ls at hl ⊢
  have hl : lv_has ls 3 [(0, .ref y), (1, .ref (r 6)), (2, .int (nI i))] := hl
  refine lv_aload_n hx hb dX6_of_0 rfl (lv_at hl 0 rfl) ?_
  refine lv_aload_n hx hb dX6_of_1 rfl (lv_at hl 0 rfl) ?_
  refine lv_iload_n hx hb dX6_of_2 rfl (lv_at hl 2 rfl) ?_
  refine z_calli (va_runV (As := [.int (nI i)]) (rest := [.ref y]) ⟨hx, hb, hml, hown, hts⟩ (c6_isPerson_t l D cy base w0 y r B i h9) (cwV 1 hts gX6_of_X6_isPerson rfl rfl rfl (by decide +kernel) ⟨Nat.le_of_ble_eq_true rfl, Nat.le_of_ble_eq_true rfl⟩) (z_preV hA hS hH (m_recv hA hH)) rfl rfl hl.1 rfl (lv_room (Nat.le_of_ble_eq_true rfl)) dX6_of_3 ⟨Nat.le_of_ble_eq_true rfl, Nat.le_of_ble_eq_true rfl⟩) hS (fun r_k_1 u_k_1 H locs hw_k_1 hH hz_k_1 hS => ?_)
  rcases hw_k_1 with ⟨rfl, hu_k_1⟩
  rw [hu_k_1] at hH
  refine lv_if_eq (tgt := 13) hx hb dX6_of_6 (by decide) (fun c_2 => absurd c_2 (by decide)) (fun _ => ?_)
  refine lv_iconst (v := 0) hx hb dX6_of_9 (by decide) ?_
  refine lv_goto (tgt := 14) hx hb dX6_of_10 (by decide) ?_
  refine z_calli (va_runV (As := [.int 0]) (rest := []) ⟨hx, hb, hml, hown, hts⟩ (c6_fails0 l D cy base w0 y r B  ) (cwV 1 hts gX6_of_X6_fails rfl rfl rfl (by decide +kernel) ⟨Nat.le_of_ble_eq_true rfl, Nat.le_of_ble_eq_true rfl⟩) (z_preV hA hS hH (m_recv hA hH)) rfl rfl hl.1 rfl (lv_room (Nat.le_of_ble_eq_true rfl)) dX6_of_14 ⟨Nat.le_of_ble_eq_true rfl, Nat.le_of_ble_eq_true rfl⟩) hS (fun r_k_3 u_k_3 H locs hw_k_3 hH hz_k_3 hS => ?_)
  rcases hw_k_3 with ⟨rfl, hu_k_3⟩
  rw [hu_k_3] at hH
  refine lv_if_eq (tgt := 24) hx hb dX6_of_17 (by decide) (fun _ => ?_) (fun c_4 => absurd (by decide) c_4)
  refine lv_aload_n hx hb dX6_of_24 rfl (lv_at hl 1 rfl) ?_
  refine lv_iload_n hx hb dX6_of_25 rfl (lv_at hl 2 rfl) ?_
  refine m_iald (f := 6) (v := (B 6 i)) (by unfold mArr; decide) rfl hx hb hA hH i rfl (by rw [show mLen 6 = 10 from rfl]; omega) rfl dX6_of_26 ?_
  exact z_iret hx hb hr hlocks hH hS (by exact ⟨rfl, rfl⟩) (by decide) (by decide) dX6_of_27
set_option maxHeartbeats 4000000 in
set_option maxRecDepth 100000 in
theorem c6_of6_f (l : Launch) (D : va_G) (cy : Nat → ClassId) (base : Nat) (w0 : zW) (y : Nat) (r : Nat → Nat) (B : Nat → Nat → Int32) (v : Int32) (h9 : vP B v = false) : Met l yX6_of wsX6_of ({ frames := 2, cells := 0, slots := 0, locals := 43 }) (zPc D cy base (mH D cy base w0 y r) [.ref y, .ref (r 6), .int v] B) (zQi base (mH D cy base w0 y r) (fun (r0 : Int32) (u0 : Nat → Nat → Int32) => r0 = 0 ∧ u0 = (z2 B 27 0 1))) 0 0 (fun q => base ≤ q) := by
  refine Met.ofW (cc := cX6_of) (maxL := 3) (ret := (some .int)) (by decide) rfl ?_
  intro p e s m args below meth c s₁ B9 hml hv
  obtain ⟨rfl, hA, hH⟩ := hv
  have hx := B9.exec
  have hb := B9.bytes
  have hr := B9.returns
  have hts := atoms_spec (ws := wsX6_of) B9.pre
  have hown : s.vm.findClass RX6 = some m.cls := findClass_of_methodNamed B9.named
  have hlocks := B9.notSynchronized
  have hS : va_S (fun q : Nat => base ≤ q) s.heap s.heap [] := va_S.rf
  have hl := lv_entry ([.ref y, .ref (r 6), .int v]) (n := 3) (Nat.le_of_ble_eq_true rfl)
  rw [lg_entry_eq]
  generalize (lg_sl ([.ref y, .ref (r 6), .int v]) ++ List.replicate (3 - (lg_sl ([.ref y, .ref (r 6), .int v])).length) Slot.unset).toArray = ls at hl ⊢
  have hl : lv_has ls 3 [(0, .ref y), (1, .ref (r 6)), (2, .int v)] := hl
  refine lv_aload_n hx hb dX6_of_0 rfl (lv_at hl 0 rfl) ?_
  refine lv_aload_n hx hb dX6_of_1 rfl (lv_at hl 0 rfl) ?_
  refine lv_iload_n hx hb dX6_of_2 rfl (lv_at hl 2 rfl) ?_
  refine z_calli (va_runV (As := [.int v]) (rest := [.ref y]) ⟨hx, hb, hml, hown, hts⟩ (c6_isPerson_f l D cy base w0 y r B v h9) (cwV 1 hts gX6_of_X6_isPerson rfl rfl rfl (by decide +kernel) ⟨Nat.le_of_ble_eq_true rfl, Nat.le_of_ble_eq_true rfl⟩) (z_preV hA hS hH (m_recv hA hH)) rfl rfl hl.1 rfl (lv_room (Nat.le_of_ble_eq_true rfl)) dX6_of_3 ⟨Nat.le_of_ble_eq_true rfl, Nat.le_of_ble_eq_true rfl⟩) hS (fun r_k_1 u_k_1 H locs hw_k_1 hH hz_k_1 hS => ?_)
  rcases hw_k_1 with ⟨rfl, hu_k_1⟩
  rw [hu_k_1] at hH
  refine lv_if_eq (tgt := 13) hx hb dX6_of_6 (by decide) (fun _ => ?_) (fun c_2 => absurd (by decide) c_2)
  refine lv_iconst (v := 1) hx hb dX6_of_13 (by decide) ?_
  refine z_calli (va_runV (As := [.int 1]) (rest := []) ⟨hx, hb, hml, hown, hts⟩ (c6_fails1 l D cy base w0 y r B  ) (cwV 1 hts gX6_of_X6_fails rfl rfl rfl (by decide +kernel) ⟨Nat.le_of_ble_eq_true rfl, Nat.le_of_ble_eq_true rfl⟩) (z_preV hA hS hH (m_recv hA hH)) rfl rfl hl.1 rfl (lv_room (Nat.le_of_ble_eq_true rfl)) dX6_of_14 ⟨Nat.le_of_ble_eq_true rfl, Nat.le_of_ble_eq_true rfl⟩) hS (fun r_k_3 u_k_3 H locs hw_k_3 hH hz_k_3 hS => ?_)
  rcases hw_k_3 with ⟨rfl, hu_k_3⟩
  rw [hu_k_3] at hH
  refine lv_if_eq (tgt := 24) hx hb dX6_of_17 (by decide) (fun c_4 => absurd c_4 (by decide)) (fun _ => ?_)
  refine lv_iconst (v := 0) hx hb dX6_of_20 (by decide) ?_
  refine lv_goto (tgt := 27) hx hb dX6_of_21 (by decide) ?_
  exact z_iret hx hb hr hlocks hH hS (by exact ⟨rfl, rfl⟩) (by decide) (by decide) dX6_of_27
set_option maxHeartbeats 4000000 in
set_option maxRecDepth 100000 in
theorem c6_of11_t (l : Launch) (D : va_G) (cy : Nat → ClassId) (base : Nat) (w0 : zW) (y : Nat) (r : Nat → Nat) (B : Nat → Nat → Int32) (i : Nat) (hi : i < 10) (h9 : vP B (nI i) = true) : Met l yX6_of wsX6_of ({ frames := 2, cells := 0, slots := 0, locals := 43 }) (zPc D cy base (mH D cy base w0 y r) [.ref y, .ref (r 11), .int (nI i)] B) (zQi base (mH D cy base w0 y r) (fun (r0 : Int32) (u0 : Nat → Nat → Int32) => r0 = (B 11 i) ∧ u0 = (z2 B 27 0 0))) 0 0 (fun q => base ≤ q) := by
  refine Met.ofW (cc := cX6_of) (maxL := 3) (ret := (some .int)) (by decide) rfl ?_
  intro p e s m args below meth c s₁ B9 hml hv
  obtain ⟨rfl, hA, hH⟩ := hv
  have hx := B9.exec
  have hb := B9.bytes
  have hr := B9.returns
  have hts := atoms_spec (ws := wsX6_of) B9.pre
  have hown : s.vm.findClass RX6 = some m.cls := findClass_of_methodNamed B9.named
  have hlocks := B9.notSynchronized
  have hS : va_S (fun q : Nat => base ≤ q) s.heap s.heap [] := va_S.rf
  have hl := lv_entry ([.ref y, .ref (r 11), .int (nI i)]) (n := 3) (Nat.le_of_ble_eq_true rfl)
  rw [lg_entry_eq]
  generalize (lg_sl ([.ref y, .ref (r 11), .int (nI i)]) ++ List.replicate (3 - (lg_sl ([.ref y, .ref (r 11), .int (nI i)])).length) Slot.unset).toArray = ls at hl ⊢
  have hl : lv_has ls 3 [(0, .ref y), (1, .ref (r 11)), (2, .int (nI i))] := hl
  refine lv_aload_n hx hb dX6_of_0 rfl (lv_at hl 0 rfl) ?_
  refine lv_aload_n hx hb dX6_of_1 rfl (lv_at hl 0 rfl) ?_
  refine lv_iload_n hx hb dX6_of_2 rfl (lv_at hl 2 rfl) ?_
  refine z_calli (va_runV (As := [.int (nI i)]) (rest := [.ref y]) ⟨hx, hb, hml, hown, hts⟩ (c6_isPerson_t l D cy base w0 y r B i h9) (cwV 1 hts gX6_of_X6_isPerson rfl rfl rfl (by decide +kernel) ⟨Nat.le_of_ble_eq_true rfl, Nat.le_of_ble_eq_true rfl⟩) (z_preV hA hS hH (m_recv hA hH)) rfl rfl hl.1 rfl (lv_room (Nat.le_of_ble_eq_true rfl)) dX6_of_3 ⟨Nat.le_of_ble_eq_true rfl, Nat.le_of_ble_eq_true rfl⟩) hS (fun r_k_1 u_k_1 H locs hw_k_1 hH hz_k_1 hS => ?_)
  rcases hw_k_1 with ⟨rfl, hu_k_1⟩
  rw [hu_k_1] at hH
  refine lv_if_eq (tgt := 13) hx hb dX6_of_6 (by decide) (fun c_2 => absurd c_2 (by decide)) (fun _ => ?_)
  refine lv_iconst (v := 0) hx hb dX6_of_9 (by decide) ?_
  refine lv_goto (tgt := 14) hx hb dX6_of_10 (by decide) ?_
  refine z_calli (va_runV (As := [.int 0]) (rest := []) ⟨hx, hb, hml, hown, hts⟩ (c6_fails0 l D cy base w0 y r B  ) (cwV 1 hts gX6_of_X6_fails rfl rfl rfl (by decide +kernel) ⟨Nat.le_of_ble_eq_true rfl, Nat.le_of_ble_eq_true rfl⟩) (z_preV hA hS hH (m_recv hA hH)) rfl rfl hl.1 rfl (lv_room (Nat.le_of_ble_eq_true rfl)) dX6_of_14 ⟨Nat.le_of_ble_eq_true rfl, Nat.le_of_ble_eq_true rfl⟩) hS (fun r_k_3 u_k_3 H locs hw_k_3 hH hz_k_3 hS => ?_)
  rcases hw_k_3 with ⟨rfl, hu_k_3⟩
  rw [hu_k_3] at hH
  refine lv_if_eq (tgt := 24) hx hb dX6_of_17 (by decide) (fun _ => ?_) (fun c_4 => absurd (by decide) c_4)
  refine lv_aload_n hx hb dX6_of_24 rfl (lv_at hl 1 rfl) ?_
  refine lv_iload_n hx hb dX6_of_25 rfl (lv_at hl 2 rfl) ?_
  refine m_iald (f := 11) (v := (B 11 i)) (by unfold mArr; decide) rfl hx hb hA hH i rfl (by rw [show mLen 11 = 10 from rfl]; omega) rfl dX6_of_26 ?_
  exact z_iret hx hb hr hlocks hH hS (by exact ⟨rfl, rfl⟩) (by decide) (by decide) dX6_of_27
set_option maxHeartbeats 4000000 in
set_option maxRecDepth 100000 in
theorem c6_of11_f (l : Launch) (D : va_G) (cy : Nat → ClassId) (base : Nat) (w0 : zW) (y : Nat) (r : Nat → Nat) (B : Nat → Nat → Int32) (v : Int32) (h9 : vP B v = false) : Met l yX6_of wsX6_of ({ frames := 2, cells := 0, slots := 0, locals := 43 }) (zPc D cy base (mH D cy base w0 y r) [.ref y, .ref (r 11), .int v] B) (zQi base (mH D cy base w0 y r) (fun (r0 : Int32) (u0 : Nat → Nat → Int32) => r0 = 0 ∧ u0 = (z2 B 27 0 1))) 0 0 (fun q => base ≤ q) := by
  refine Met.ofW (cc := cX6_of) (maxL := 3) (ret := (some .int)) (by decide) rfl ?_
  intro p e s m args below meth c s₁ B9 hml hv
  obtain ⟨rfl, hA, hH⟩ := hv
  have hx := B9.exec
  have hb := B9.bytes
  have hr := B9.returns
  have hts := atoms_spec (ws := wsX6_of) B9.pre
  have hown : s.vm.findClass RX6 = some m.cls := findClass_of_methodNamed B9.named
  have hlocks := B9.notSynchronized
  have hS : va_S (fun q : Nat => base ≤ q) s.heap s.heap [] := va_S.rf
  have hl := lv_entry ([.ref y, .ref (r 11), .int v]) (n := 3) (Nat.le_of_ble_eq_true rfl)
  rw [lg_entry_eq]
  generalize (lg_sl ([.ref y, .ref (r 11), .int v]) ++ List.replicate (3 - (lg_sl ([.ref y, .ref (r 11), .int v])).length) Slot.unset).toArray = ls at hl ⊢
  have hl : lv_has ls 3 [(0, .ref y), (1, .ref (r 11)), (2, .int v)] := hl
  refine lv_aload_n hx hb dX6_of_0 rfl (lv_at hl 0 rfl) ?_
  refine lv_aload_n hx hb dX6_of_1 rfl (lv_at hl 0 rfl) ?_
  refine lv_iload_n hx hb dX6_of_2 rfl (lv_at hl 2 rfl) ?_
  refine z_calli (va_runV (As := [.int v]) (rest := [.ref y]) ⟨hx, hb, hml, hown, hts⟩ (c6_isPerson_f l D cy base w0 y r B v h9) (cwV 1 hts gX6_of_X6_isPerson rfl rfl rfl (by decide +kernel) ⟨Nat.le_of_ble_eq_true rfl, Nat.le_of_ble_eq_true rfl⟩) (z_preV hA hS hH (m_recv hA hH)) rfl rfl hl.1 rfl (lv_room (Nat.le_of_ble_eq_true rfl)) dX6_of_3 ⟨Nat.le_of_ble_eq_true rfl, Nat.le_of_ble_eq_true rfl⟩) hS (fun r_k_1 u_k_1 H locs hw_k_1 hH hz_k_1 hS => ?_)
  rcases hw_k_1 with ⟨rfl, hu_k_1⟩
  rw [hu_k_1] at hH
  refine lv_if_eq (tgt := 13) hx hb dX6_of_6 (by decide) (fun _ => ?_) (fun c_2 => absurd (by decide) c_2)
  refine lv_iconst (v := 1) hx hb dX6_of_13 (by decide) ?_
  refine z_calli (va_runV (As := [.int 1]) (rest := []) ⟨hx, hb, hml, hown, hts⟩ (c6_fails1 l D cy base w0 y r B  ) (cwV 1 hts gX6_of_X6_fails rfl rfl rfl (by decide +kernel) ⟨Nat.le_of_ble_eq_true rfl, Nat.le_of_ble_eq_true rfl⟩) (z_preV hA hS hH (m_recv hA hH)) rfl rfl hl.1 rfl (lv_room (Nat.le_of_ble_eq_true rfl)) dX6_of_14 ⟨Nat.le_of_ble_eq_true rfl, Nat.le_of_ble_eq_true rfl⟩) hS (fun r_k_3 u_k_3 H locs hw_k_3 hH hz_k_3 hS => ?_)
  rcases hw_k_3 with ⟨rfl, hu_k_3⟩
  rw [hu_k_3] at hH
  refine lv_if_eq (tgt := 24) hx hb dX6_of_17 (by decide) (fun c_4 => absurd c_4 (by decide)) (fun _ => ?_)
  refine lv_iconst (v := 0) hx hb dX6_of_20 (by decide) ?_
  refine lv_goto (tgt := 27) hx hb dX6_of_21 (by decide) ?_
  exact z_iret hx hb hr hlocks hH hS (by exact ⟨rfl, rfl⟩) (by decide) (by decide) dX6_of_27
set_option maxHeartbeats 4000000 in
set_option maxRecDepth 100000 in
theorem c6_of13_t (l : Launch) (D : va_G) (cy : Nat → ClassId) (base : Nat) (w0 : zW) (y : Nat) (r : Nat → Nat) (B : Nat → Nat → Int32) (i : Nat) (hi : i < 10) (h9 : vP B (nI i) = true) : Met l yX6_of wsX6_of ({ frames := 2, cells := 0, slots := 0, locals := 43 }) (zPc D cy base (mH D cy base w0 y r) [.ref y, .ref (r 13), .int (nI i)] B) (zQi base (mH D cy base w0 y r) (fun (r0 : Int32) (u0 : Nat → Nat → Int32) => r0 = (B 13 i) ∧ u0 = (z2 B 27 0 0))) 0 0 (fun q => base ≤ q) := by
  refine Met.ofW (cc := cX6_of) (maxL := 3) (ret := (some .int)) (by decide) rfl ?_
  intro p e s m args below meth c s₁ B9 hml hv
  obtain ⟨rfl, hA, hH⟩ := hv
  have hx := B9.exec
  have hb := B9.bytes
  have hr := B9.returns
  have hts := atoms_spec (ws := wsX6_of) B9.pre
  have hown : s.vm.findClass RX6 = some m.cls := findClass_of_methodNamed B9.named
  have hlocks := B9.notSynchronized
  have hS : va_S (fun q : Nat => base ≤ q) s.heap s.heap [] := va_S.rf
  have hl := lv_entry ([.ref y, .ref (r 13), .int (nI i)]) (n := 3) (Nat.le_of_ble_eq_true rfl)
  rw [lg_entry_eq]
  generalize (lg_sl ([.ref y, .ref (r 13), .int (nI i)]) ++ List.replicate (3 - (lg_sl ([.ref y, .ref (r 13), .int (nI i)])).length) Slot.unset).toArray = ls at hl ⊢
  have hl : lv_has ls 3 [(0, .ref y), (1, .ref (r 13)), (2, .int (nI i))] := hl
  refine lv_aload_n hx hb dX6_of_0 rfl (lv_at hl 0 rfl) ?_
  refine lv_aload_n hx hb dX6_of_1 rfl (lv_at hl 0 rfl) ?_
  refine lv_iload_n hx hb dX6_of_2 rfl (lv_at hl 2 rfl) ?_
  refine z_calli (va_runV (As := [.int (nI i)]) (rest := [.ref y]) ⟨hx, hb, hml, hown, hts⟩ (c6_isPerson_t l D cy base w0 y r B i h9) (cwV 1 hts gX6_of_X6_isPerson rfl rfl rfl (by decide +kernel) ⟨Nat.le_of_ble_eq_true rfl, Nat.le_of_ble_eq_true rfl⟩) (z_preV hA hS hH (m_recv hA hH)) rfl rfl hl.1 rfl (lv_room (Nat.le_of_ble_eq_true rfl)) dX6_of_3 ⟨Nat.le_of_ble_eq_true rfl, Nat.le_of_ble_eq_true rfl⟩) hS (fun r_k_1 u_k_1 H locs hw_k_1 hH hz_k_1 hS => ?_)
  rcases hw_k_1 with ⟨rfl, hu_k_1⟩
  rw [hu_k_1] at hH
  refine lv_if_eq (tgt := 13) hx hb dX6_of_6 (by decide) (fun c_2 => absurd c_2 (by decide)) (fun _ => ?_)
  refine lv_iconst (v := 0) hx hb dX6_of_9 (by decide) ?_
  refine lv_goto (tgt := 14) hx hb dX6_of_10 (by decide) ?_
  refine z_calli (va_runV (As := [.int 0]) (rest := []) ⟨hx, hb, hml, hown, hts⟩ (c6_fails0 l D cy base w0 y r B  ) (cwV 1 hts gX6_of_X6_fails rfl rfl rfl (by decide +kernel) ⟨Nat.le_of_ble_eq_true rfl, Nat.le_of_ble_eq_true rfl⟩) (z_preV hA hS hH (m_recv hA hH)) rfl rfl hl.1 rfl (lv_room (Nat.le_of_ble_eq_true rfl)) dX6_of_14 ⟨Nat.le_of_ble_eq_true rfl, Nat.le_of_ble_eq_true rfl⟩) hS (fun r_k_3 u_k_3 H locs hw_k_3 hH hz_k_3 hS => ?_)
  rcases hw_k_3 with ⟨rfl, hu_k_3⟩
  rw [hu_k_3] at hH
  refine lv_if_eq (tgt := 24) hx hb dX6_of_17 (by decide) (fun _ => ?_) (fun c_4 => absurd (by decide) c_4)
  refine lv_aload_n hx hb dX6_of_24 rfl (lv_at hl 1 rfl) ?_
  refine lv_iload_n hx hb dX6_of_25 rfl (lv_at hl 2 rfl) ?_
  refine m_iald (f := 13) (v := (B 13 i)) (by unfold mArr; decide) rfl hx hb hA hH i rfl (by rw [show mLen 13 = 10 from rfl]; omega) rfl dX6_of_26 ?_
  exact z_iret hx hb hr hlocks hH hS (by exact ⟨rfl, rfl⟩) (by decide) (by decide) dX6_of_27
set_option maxHeartbeats 4000000 in
set_option maxRecDepth 100000 in
theorem c6_of13_f (l : Launch) (D : va_G) (cy : Nat → ClassId) (base : Nat) (w0 : zW) (y : Nat) (r : Nat → Nat) (B : Nat → Nat → Int32) (v : Int32) (h9 : vP B v = false) : Met l yX6_of wsX6_of ({ frames := 2, cells := 0, slots := 0, locals := 43 }) (zPc D cy base (mH D cy base w0 y r) [.ref y, .ref (r 13), .int v] B) (zQi base (mH D cy base w0 y r) (fun (r0 : Int32) (u0 : Nat → Nat → Int32) => r0 = 0 ∧ u0 = (z2 B 27 0 1))) 0 0 (fun q => base ≤ q) := by
  refine Met.ofW (cc := cX6_of) (maxL := 3) (ret := (some .int)) (by decide) rfl ?_
  intro p e s m args below meth c s₁ B9 hml hv
  obtain ⟨rfl, hA, hH⟩ := hv
  have hx := B9.exec
  have hb := B9.bytes
  have hr := B9.returns
  have hts := atoms_spec (ws := wsX6_of) B9.pre
  have hown : s.vm.findClass RX6 = some m.cls := findClass_of_methodNamed B9.named
  have hlocks := B9.notSynchronized
  have hS : va_S (fun q : Nat => base ≤ q) s.heap s.heap [] := va_S.rf
  have hl := lv_entry ([.ref y, .ref (r 13), .int v]) (n := 3) (Nat.le_of_ble_eq_true rfl)
  rw [lg_entry_eq]
  generalize (lg_sl ([.ref y, .ref (r 13), .int v]) ++ List.replicate (3 - (lg_sl ([.ref y, .ref (r 13), .int v])).length) Slot.unset).toArray = ls at hl ⊢
  have hl : lv_has ls 3 [(0, .ref y), (1, .ref (r 13)), (2, .int v)] := hl
  refine lv_aload_n hx hb dX6_of_0 rfl (lv_at hl 0 rfl) ?_
  refine lv_aload_n hx hb dX6_of_1 rfl (lv_at hl 0 rfl) ?_
  refine lv_iload_n hx hb dX6_of_2 rfl (lv_at hl 2 rfl) ?_
  refine z_calli (va_runV (As := [.int v]) (rest := [.ref y]) ⟨hx, hb, hml, hown, hts⟩ (c6_isPerson_f l D cy base w0 y r B v h9) (cwV 1 hts gX6_of_X6_isPerson rfl rfl rfl (by decide +kernel) ⟨Nat.le_of_ble_eq_true rfl, Nat.le_of_ble_eq_true rfl⟩) (z_preV hA hS hH (m_recv hA hH)) rfl rfl hl.1 rfl (lv_room (Nat.le_of_ble_eq_true rfl)) dX6_of_3 ⟨Nat.le_of_ble_eq_true rfl, Nat.le_of_ble_eq_true rfl⟩) hS (fun r_k_1 u_k_1 H locs hw_k_1 hH hz_k_1 hS => ?_)
  rcases hw_k_1 with ⟨rfl, hu_k_1⟩
  rw [hu_k_1] at hH
  refine lv_if_eq (tgt := 13) hx hb dX6_of_6 (by decide) (fun _ => ?_) (fun c_2 => absurd (by decide) c_2)
  refine lv_iconst (v := 1) hx hb dX6_of_13 (by decide) ?_
  refine z_calli (va_runV (As := [.int 1]) (rest := []) ⟨hx, hb, hml, hown, hts⟩ (c6_fails1 l D cy base w0 y r B  ) (cwV 1 hts gX6_of_X6_fails rfl rfl rfl (by decide +kernel) ⟨Nat.le_of_ble_eq_true rfl, Nat.le_of_ble_eq_true rfl⟩) (z_preV hA hS hH (m_recv hA hH)) rfl rfl hl.1 rfl (lv_room (Nat.le_of_ble_eq_true rfl)) dX6_of_14 ⟨Nat.le_of_ble_eq_true rfl, Nat.le_of_ble_eq_true rfl⟩) hS (fun r_k_3 u_k_3 H locs hw_k_3 hH hz_k_3 hS => ?_)
  rcases hw_k_3 with ⟨rfl, hu_k_3⟩
  rw [hu_k_3] at hH
  refine lv_if_eq (tgt := 24) hx hb dX6_of_17 (by decide) (fun c_4 => absurd c_4 (by decide)) (fun _ => ?_)
  refine lv_iconst (v := 0) hx hb dX6_of_20 (by decide) ?_
  refine lv_goto (tgt := 27) hx hb dX6_of_21 (by decide) ?_
  exact z_iret hx hb hr hlocks hH hS (by exact ⟨rfl, rfl⟩) (by decide) (by decide) dX6_of_27
set_option maxHeartbeats 4000000 in
set_option maxRecDepth 100000 in
theorem c6_out (l : Launch) (D : va_G) (cy : Nat → ClassId) (base : Nat) (w0 : zW) (y : Nat) (r : Nat → Nat) (B : Nat → Nat → Int32) (d : Int32) (hinv : mInv B) : Met l yX6_out wsX6_out ({ frames := 0, cells := 0, slots := 0, locals := 0 }) (zPc D cy base (mH D cy base w0 y r) [.ref y, .int d] B) (zQi base (mH D cy base w0 y r) (fun (r0 : Int32) (u0 : Nat → Nat → Int32) => r0 = (sOut B d (nP B)) ∧ u0 = B)) 0 0 (fun q => base ≤ q) := by
  refine Met.ofW (cc := cX6_out) (maxL := 4) (ret := (some .int)) (by decide) rfl ?_
  intro p e s m args below meth c s₁ B9 hml hv
  obtain ⟨rfl, hA, hH⟩ := hv
  have hx := B9.exec
  have hb := B9.bytes
  have hr := B9.returns
  have hts := atoms_spec (ws := wsX6_out) B9.pre
  have hown : s.vm.findClass RX6 = some m.cls := findClass_of_methodNamed B9.named
  have hlocks := B9.notSynchronized
  have hi6 : ∀ w ∈ wsX60, w ∈ wsX6_out := by decide +kernel
  have hS : va_S (fun q : Nat => base ≤ q) s.heap s.heap [] := va_S.rf
  have hl := lv_entry ([.ref y, .int d]) (n := 4) (Nat.le_of_ble_eq_true rfl)
  rw [lg_entry_eq]
  generalize (lg_sl ([.ref y, .int d]) ++ List.replicate (4 - (lg_sl ([.ref y, .int d])).length) Slot.unset).toArray = ls at hl ⊢
  have hl : lv_has ls 4 [(0, .ref y), (1, .int d)] := hl
  refine lv_iconst (v := 0) hx hb dX6_out_0 (by decide) ?_
  refine lv_istore_n (lv' := [(2, .int 0), (0, .ref y), (1, .int d)]) hx hb dX6_out_1 rfl hl (by decide) rfl (fun ls hl => ?_)
  refine lv_iconst (v := 0) hx hb dX6_out_2 (by decide) ?_
  refine lv_istore_n (lv' := [(3, .int 0), (2, .int 0), (0, .ref y), (1, .int d)]) hx hb dX6_out_3 rfl hl (by decide) rfl (fun ls hl => ?_)
  have hl_1 : lv_has ls 4 [(0, .ref y), (1, .int d), (2, .int 0), (3, .int 0)] := lv_sub hl [2, 3, 1, 0] rfl
  have hl_1 : lv_has ls 4 [(0, .ref y), (1, .int d), (2, .int (sOut B d 0)), (3, .int (nI 0))] := hl_1
  refine z_for (nL := 4) (nP B) (fun k u => u = B) (fun k _ => [(0, .ref y), (1, .int d), (2, .int (sOut B d k)), (3, .int (nI k))]) 0 (Nat.zero_le _) rfl hH hS hl_1 ?_ ?_
  · intro u H locs ls hu hH hS hl
    rw [hu] at hH
    refine lv_iload_n hx hb dX6_out_4 rfl (lv_at hl 3 rfl) ?_
    refine lv_aload_n hx hb dX6_out_5 rfl (lv_at hl 0 rfl) ?_
    refine m_num (f := 1) (v := (B 1 0)) (by unfold mNum; decide) hx hb hts hi6 hown hA hH (hts (.fieldLink RX6 87 "ParoleCardsModel" "people" "I") (by decide +kernel)) rfl dX6_out_6 ?_
    refine lv_icmp_ge (tgt := 51) hx hb dX6_out_9 (by decide) (fun c_2 => ?_) (fun c_2 => absurd (by rw [hinv.1.2]; exact nI_le (Nat.le_refl _) (by have := hinv.1.1; omega)) c_2)
    refine lv_iload_n hx hb dX6_out_51 rfl (lv_at hl 2 rfl) ?_
    exact z_iret hx hb hr hlocks hH hS (by exact ⟨rfl, rfl⟩) (by decide) (by decide) dX6_out_52
  · intro k hk ih u H locs ls hu hH hS hl
    rw [hu] at hH
    refine lv_iload_n hx hb dX6_out_4 rfl (lv_at hl 3 rfl) ?_
    refine lv_aload_n hx hb dX6_out_5 rfl (lv_at hl 0 rfl) ?_
    refine m_num (f := 1) (v := (B 1 0)) (by unfold mNum; decide) hx hb hts hi6 hown hA hH (hts (.fieldLink RX6 87 "ParoleCardsModel" "people" "I") (by decide +kernel)) rfl dX6_out_6 ?_
    refine lv_icmp_ge (tgt := 51) hx hb dX6_out_9 (by decide) (fun c_3 => absurd c_3 (by rw [hinv.1.2]; exact nI_ge hk (by have := hinv.1.1; omega))) (fun c_3 => ?_)
    refine lv_iload_n hx hb dX6_out_12 rfl (lv_at hl 2 rfl) ?_
    refine lv_aload_n hx hb dX6_out_13 rfl (lv_at hl 0 rfl) ?_
    refine m_arr (f := 11) (by unfold mArr; decide) hx hb hts hi6 hown hA hH (hts (.fieldLink RX6 38 "ParoleCardsModel" "on" "[I") (by decide +kernel)) rfl dX6_out_14 ?_
    refine lv_iload_n hx hb dX6_out_17 rfl (lv_at hl 3 rfl) ?_
    refine m_iald (f := 11) (v := (B 11 k)) (by unfold mArr; decide) rfl hx hb hA hH k rfl (by rw [show mLen 11 = 10 from rfl]; have := hinv.1.1; omega) rfl dX6_out_18 ?_
    refine lv_iconst (v := (-1)) hx hb dX6_out_19 (by decide) ?_
    refine lv_icmp_eq (tgt := 42) hx hb dX6_out_20 (by decide) (fun c_4 => ?_) (fun c_4 => ?_)
    · refine lv_iconst (v := 0) hx hb dX6_out_42 (by decide) ?_
      refine lv_iadd hx hb dX6_out_43 ?_
      refine lv_istore_n (lv' := [(2, .int ((sOut B d k) + 0)), (0, .ref y), (1, .int d), (3, .int (nI k))]) hx hb dX6_out_44 rfl hl (by decide) rfl (fun ls hl => ?_)
      refine lv_iinc (v := ((nI k) + 1)) (lv' := [(3, .int ((nI k) + 1)), (2, .int ((sOut B d k) + 0)), (0, .ref y), (1, .int d)]) hx hb dX6_out_45 hl (k := 3) rfl rfl (by decide) rfl (fun ls hl => ?_)
      refine lv_goto (tgt := 4) hx hb dX6_out_48 (by decide) ?_
      have hl_5 : lv_has ls 4 [(0, .ref y), (1, .int d), (2, .int ((sOut B d k) + 0)), (3, .int ((nI k) + 1))] := lv_sub hl [2, 3, 1, 0] rfl
      rw [show (((sOut B d k) + 0) : Int32) = (sOut B d (k + 1)) from (by simp [sOut, c_3, Int32.not_le.mp c_3, c_4])] at hl_5
      rw [show (((nI k) + 1) : Int32) = (nI (k + 1)) from (nI_1 _)] at hl_5
      have hl_5 : lv_has ls 4 [(0, .ref y), (1, .int d), (2, .int (sOut B d (k + 1))), (3, .int (nI (k + 1)))] := hl_5
      exact ih _ _ _ _ rfl hH hS hl_5
    · refine lv_aload_n hx hb dX6_out_23 rfl (lv_at hl 0 rfl) ?_
      refine m_arr (f := 24) (by unfold mArr; decide) hx hb hts hi6 hown hA hH (hts (.fieldLink RX6 74 "ParoleCardsModel" "kind" "[I") (by decide +kernel)) rfl dX6_out_24 ?_
      refine lv_aload_n hx hb dX6_out_27 rfl (lv_at hl 0 rfl) ?_
      refine m_arr (f := 11) (by unfold mArr; decide) hx hb hts hi6 hown hA hH (hts (.fieldLink RX6 38 "ParoleCardsModel" "on" "[I") (by decide +kernel)) rfl dX6_out_28 ?_
      refine lv_iload_n hx hb dX6_out_31 rfl (lv_at hl 3 rfl) ?_
      refine m_iald (f := 11) (v := (B 11 k)) (by unfold mArr; decide) rfl hx hb hA hH k rfl (by rw [show mLen 11 = 10 from rfl]; have := hinv.1.1; omega) rfl dX6_out_32 ?_
      refine m_iald (f := 24) (v := (B 24 (ox B k))) (by unfold mArr; decide) rfl hx hb hA hH (ox B k) ((hinv.2.2.1 k hk).2.2.2.2.resolve_left c_4).1 (by rw [show mLen 24 = 8 from rfl]; have h1 := ((hinv.2.2.1 k hk).2.2.2.2.resolve_left c_4).2; have h2 := hinv.2.1.1; omega) rfl dX6_out_33 ?_
      refine lv_iload_n hx hb dX6_out_34 rfl (lv_at hl 1 rfl) ?_
      refine lv_icmp_ne (tgt := 42) hx hb dX6_out_35 (by decide) (fun c_6 => ?_) (fun c_6 => ?_)
      · refine lv_iconst (v := 0) hx hb dX6_out_42 (by decide) ?_
        refine lv_iadd hx hb dX6_out_43 ?_
        refine lv_istore_n (lv' := [(2, .int ((sOut B d k) + 0)), (0, .ref y), (1, .int d), (3, .int (nI k))]) hx hb dX6_out_44 rfl hl (by decide) rfl (fun ls hl => ?_)
        refine lv_iinc (v := ((nI k) + 1)) (lv' := [(3, .int ((nI k) + 1)), (2, .int ((sOut B d k) + 0)), (0, .ref y), (1, .int d)]) hx hb dX6_out_45 hl (k := 3) rfl rfl (by decide) rfl (fun ls hl => ?_)
        refine lv_goto (tgt := 4) hx hb dX6_out_48 (by decide) ?_
        have hl_7 : lv_has ls 4 [(0, .ref y), (1, .int d), (2, .int ((sOut B d k) + 0)), (3, .int ((nI k) + 1))] := lv_sub hl [2, 3, 1, 0] rfl
        rw [show (((sOut B d k) + 0) : Int32) = (sOut B d (k + 1)) from (by simp [sOut, c_3, Int32.not_le.mp c_3, c_4, c_6])] at hl_7
        rw [show (((nI k) + 1) : Int32) = (nI (k + 1)) from (nI_1 _)] at hl_7
        have hl_7 : lv_has ls 4 [(0, .ref y), (1, .int d), (2, .int (sOut B d (k + 1))), (3, .int (nI (k + 1)))] := hl_7
        exact ih _ _ _ _ rfl hH hS hl_7
      · refine lv_iconst (v := 1) hx hb dX6_out_38 (by decide) ?_
        refine lv_goto (tgt := 43) hx hb dX6_out_39 (by decide) ?_
        refine lv_iadd hx hb dX6_out_43 ?_
        refine lv_istore_n (lv' := [(2, .int ((sOut B d k) + 1)), (0, .ref y), (1, .int d), (3, .int (nI k))]) hx hb dX6_out_44 rfl hl (by decide) rfl (fun ls hl => ?_)
        refine lv_iinc (v := ((nI k) + 1)) (lv' := [(3, .int ((nI k) + 1)), (2, .int ((sOut B d k) + 1)), (0, .ref y), (1, .int d)]) hx hb dX6_out_45 hl (k := 3) rfl rfl (by decide) rfl (fun ls hl => ?_)
        refine lv_goto (tgt := 4) hx hb dX6_out_48 (by decide) ?_
        have hl_8 : lv_has ls 4 [(0, .ref y), (1, .int d), (2, .int ((sOut B d k) + 1)), (3, .int ((nI k) + 1))] := lv_sub hl [2, 3, 1, 0] rfl
        rw [show (((sOut B d k) + 1) : Int32) = (sOut B d (k + 1)) from (by simp [sOut, c_3, Int32.not_le.mp c_3, c_4, c_6])] at hl_8
        rw [show (((nI k) + 1) : Int32) = (nI (k + 1)) from (nI_1 _)] at hl_8
        have hl_8 : lv_has ls 4 [(0, .ref y), (1, .int d), (2, .int (sOut B d (k + 1))), (3, .int (nI (k + 1)))] := hl_8
        exact ih _ _ _ _ rfl hH hS hl_8
set_option maxHeartbeats 4000000 in
set_option maxRecDepth 100000 in
theorem c6_rest (l : Launch) (D : va_G) (cy : Nat → ClassId) (base : Nat) (w0 : zW) (y : Nat) (r : Nat → Nat) (B : Nat → Nat → Int32) (i : Nat) (hi : i < 10) (h10 : B 10 i = nI (oc B i)) (h50 : oc B i ≤ 50) : Met l yX6_rest wsX6_rest ({ frames := 0, cells := 0, slots := 0, locals := 0 }) (zPc D cy base (mH D cy base w0 y r) [.ref y, .int (nI i)] B) (zQi base (mH D cy base w0 y r) (fun (r0 : Int32) (u0 : Nat → Nat → Int32) => r0 = (sRest B i) ∧ u0 = B)) 0 0 (fun q => base ≤ q) := by
  refine Met.ofW (cc := cX6_rest) (maxL := 4) (ret := (some .int)) (by decide) rfl ?_
  intro p e s m args below meth c s₁ B9 hml hv
  obtain ⟨rfl, hA, hH⟩ := hv
  have hx := B9.exec
  have hb := B9.bytes
  have hr := B9.returns
  have hts := atoms_spec (ws := wsX6_rest) B9.pre
  have hown : s.vm.findClass RX6 = some m.cls := findClass_of_methodNamed B9.named
  have hlocks := B9.notSynchronized
  have hi6 : ∀ w ∈ wsX60, w ∈ wsX6_rest := by decide +kernel
  have hS : va_S (fun q : Nat => base ≤ q) s.heap s.heap [] := va_S.rf
  have hl := lv_entry ([.ref y, .int (nI i)]) (n := 4) (Nat.le_of_ble_eq_true rfl)
  rw [lg_entry_eq]
  generalize (lg_sl ([.ref y, .int (nI i)]) ++ List.replicate (4 - (lg_sl ([.ref y, .int (nI i)])).length) Slot.unset).toArray = ls at hl ⊢
  have hl : lv_has ls 4 [(0, .ref y), (1, .int (nI i))] := hl
  refine lv_bipush (v := 20) hx hb dX6_rest_0 (by decide) ?_
  refine lv_aload_n hx hb dX6_rest_2 rfl (lv_at hl 0 rfl) ?_
  refine m_arr (f := 6) (by unfold mArr; decide) hx hb hts hi6 hown hA hH (hts (.fieldLink RX6 23 "ParoleCardsModel" "regime" "[I") (by decide +kernel)) rfl dX6_rest_3 ?_
  refine lv_iload_n hx hb dX6_rest_6 rfl (lv_at hl 1 rfl) ?_
  refine m_iald (f := 6) (v := (B 6 i)) (by unfold mArr; decide) rfl hx hb hA hH i rfl (by rw [show mLen 6 = 10 from rfl]; omega) rfl dX6_rest_7 ?_
  refine lv_imul hx hb dX6_rest_8 ?_
  refine lv_bipush (v := 10) hx hb dX6_rest_9 (by decide) ?_
  refine lv_iadd hx hb dX6_rest_11 ?_
  refine lv_istore_n (lv' := [(2, .int ((20 * (B 6 i)) + 10)), (0, .ref y), (1, .int (nI i))]) hx hb dX6_rest_12 rfl hl (by decide) rfl (fun ls hl => ?_)
  refine lv_bipush (v := 50) hx hb dX6_rest_13 (by decide) ?_
  refine lv_iload_n hx hb dX6_rest_15 rfl (lv_at hl 2 rfl) ?_
  refine lv_imul hx hb dX6_rest_16 ?_
  refine lv_istore_n (lv' := [(3, .int (50 * (nI i))), (2, .int ((20 * (B 6 i)) + 10)), (0, .ref y), (1, .int (nI i))]) hx hb dX6_rest_17 rfl hl (by decide) rfl (fun ls hl => ?_)
  have hl_1 : lv_has ls 4 [(0, .ref y), (1, .int (nI i)), (2, .int ((20 * (B 6 i)) + 10)), (3, .int (50 * (nI i)))] := lv_sub hl [2, 3, 1, 0] rfl
  rw [show ((50 * (nI i)) : Int32) = (nI (50 * i + 0)) from (by rw [show (50 : Int32) = nI 50 from rfl, pk_mul]; rfl)] at hl_1
  have hl_1 : lv_has ls 4 [(0, .ref y), (1, .int (nI i)), (2, .int (sMost B i 0)), (3, .int (nI (50 * i + 0)))] := hl_1
  refine z_for (nL := 4) (oc B i) (fun k u => u = B) (fun k _ => [(0, .ref y), (1, .int (nI i)), (2, .int (sMost B i k)), (3, .int (nI (50 * i + k)))]) 0 (Nat.zero_le _) rfl hH hS hl_1 ?_ ?_
  · intro u H locs ls hu hH hS hl
    rw [hu] at hH
    refine lv_iload_n hx hb dX6_rest_18 rfl (lv_at hl 3 rfl) ?_
    refine lv_bipush (v := 50) hx hb dX6_rest_19 (by decide) ?_
    refine lv_iload_n hx hb dX6_rest_21 rfl (lv_at hl 1 rfl) ?_
    refine lv_imul hx hb dX6_rest_22 ?_
    refine lv_aload_n hx hb dX6_rest_23 rfl (lv_at hl 0 rfl) ?_
    refine m_arr (f := 10) (by unfold mArr; decide) hx hb hts hi6 hown hA hH (hts (.fieldLink RX6 35 "ParoleCardsModel" "offences" "[I") (by decide +kernel)) rfl dX6_rest_24 ?_
    refine lv_iload_n hx hb dX6_rest_27 rfl (lv_at hl 1 rfl) ?_
    refine m_iald (f := 10) (v := (B 10 i)) (by unfold mArr; decide) rfl hx hb hA hH i rfl (by rw [show mLen 10 = 10 from rfl]; omega) rfl dX6_rest_28 ?_
    refine lv_iadd hx hb dX6_rest_29 ?_
    refine lv_icmp_ge (tgt := 72) hx hb dX6_rest_30 (by decide) (fun c_2 => ?_) (fun c_2 => absurd (by rw [(show (50 * nI i) + (B 10 i) = nI (50 * i + oc B i) by rw [h10, show (50 : Int32) = nI 50 from rfl, pk_mul, nI_add])]; exact nI_le (Nat.le_refl _) (by omega)) c_2)
    refine lv_aload_n hx hb dX6_rest_72 rfl (lv_at hl 0 rfl) ?_
    refine m_arr (f := 15) (by unfold mArr; decide) hx hb hts hi6 hown hA hH (hts (.fieldLink RX6 50 "ParoleCardsModel" "span" "[I") (by decide +kernel)) rfl dX6_rest_73 ?_
    refine lv_iload_n hx hb dX6_rest_76 rfl (lv_at hl 1 rfl) ?_
    refine m_iald (f := 15) (v := (B 15 i)) (by unfold mArr; decide) rfl hx hb hA hH i rfl (by rw [show mLen 15 = 10 from rfl]; omega) rfl dX6_rest_77 ?_
    refine lv_aload_n hx hb dX6_rest_78 rfl (lv_at hl 0 rfl) ?_
    refine m_num (f := 0) (v := (B 0 0)) (by unfold mNum; decide) hx hb hts hi6 hown hA hH (hts (.fieldLink RX6 101 "ParoleCardsModel" "today" "I") (by decide +kernel)) rfl dX6_rest_79 ?_
    refine lv_bipush (v := 7) hx hb dX6_rest_82 (by decide) ?_
    refine lv_idiv hx hb dX6_rest_84 (by decide) ?_
    refine lv_icmp_ne (tgt := 97) hx hb dX6_rest_85 (by decide) (fun c_3 => ?_) (fun c_3 => ?_)
    · refine lv_iconst (v := 0) hx hb dX6_rest_97 (by decide) ?_
      refine lv_istore_n (lv' := [(3, .int 0), (0, .ref y), (1, .int (nI i)), (2, .int (sMost B i (oc B i)))]) hx hb dX6_rest_98 rfl hl (by decide) rfl (fun ls hl => ?_)
      refine lv_iload_n hx hb dX6_rest_99 rfl (lv_at hl 3 rfl) ?_
      refine lv_if_ge (tgt := 107) hx hb dX6_rest_100 (by decide) (fun c_4 => ?_) (fun c_4 => ?_)
      · refine lv_iload_n hx hb dX6_rest_107 rfl (lv_at hl 3 rfl) ?_
        refine lv_istore_n (lv' := [(2, .int (sMost B i (oc B i))), (3, .int 0), (0, .ref y), (1, .int (nI i))]) hx hb dX6_rest_108 rfl hl (by decide) rfl (fun ls hl => ?_)
        refine lv_aload_n hx hb dX6_rest_109 rfl (lv_at hl 2 rfl) ?_
        refine m_arr (f := 2) (by unfold mArr; decide) hx hb hts hi6 hown hA hH (hts (.fieldLink RX6 7 "ParoleCardsModel" "isOut" "[Z") (by decide +kernel)) rfl dX6_rest_110 ?_
        refine lv_iload_n hx hb dX6_rest_113 rfl (lv_at hl 3 rfl) ?_
        refine m_zald (f := 2) (v := (B 2 i)) (by unfold mArr; decide) rfl hx hb hA hH i rfl (by rw [show mLen 2 = 10 from rfl]; omega) rfl dX6_rest_114 ?_
        refine lv_if_ne (tgt := 123) hx hb dX6_rest_115 (by decide) (fun c_5 => ?_) (fun c_5 => ?_)
        · refine lv_iconst (v := 0) hx hb dX6_rest_123 (by decide) ?_
          refine lv_goto (tgt := 130) hx hb dX6_rest_124 (by decide) ?_
          exact z_iret hx hb hr hlocks hH hS ⟨by first | contradiction | (simp [sRest, sTop, sBought, c_2, Int32.not_lt.mpr c_2, c_3, c_4, Int32.not_lt.mpr c_4, c_5]; done), rfl⟩ (by decide) (by decide) dX6_rest_130
        · refine lv_iload_n hx hb dX6_rest_118 rfl (lv_at hl 0 rfl) ?_
          refine lv_iload_n hx hb dX6_rest_119 rfl (lv_at hl 1 rfl) ?_
          refine lv_icmp_ge (tgt := 127) hx hb dX6_rest_120 (by decide) (fun c_6 => ?_) (fun c_6 => ?_)
          · refine lv_iload_n hx hb dX6_rest_127 rfl (lv_at hl 0 rfl) ?_
            refine lv_iload_n hx hb dX6_rest_128 rfl (lv_at hl 1 rfl) ?_
            refine lv_isub hx hb dX6_rest_129 ?_
            exact z_iret hx hb hr hlocks hH hS ⟨by first | contradiction | (simp [sRest, sTop, sBought, c_2, Int32.not_lt.mpr c_2, c_3, c_4, Int32.not_lt.mpr c_4, c_5, c_6, Int32.not_lt.mpr c_6]; done), rfl⟩ (by decide) (by decide) dX6_rest_130
          · refine lv_iconst (v := 0) hx hb dX6_rest_123 (by decide) ?_
            refine lv_goto (tgt := 130) hx hb dX6_rest_124 (by decide) ?_
            exact z_iret hx hb hr hlocks hH hS ⟨by first | contradiction | (simp [sRest, sTop, sBought, c_2, Int32.not_lt.mpr c_2, c_3, c_4, Int32.not_lt.mpr c_4, c_5, c_6, Int32.not_le.mp c_6]; done), rfl⟩ (by decide) (by decide) dX6_rest_130
      · refine lv_iconst (v := 0) hx hb dX6_rest_103 (by decide) ?_
        refine lv_goto (tgt := 108) hx hb dX6_rest_104 (by decide) ?_
        refine lv_istore_n (lv' := [(2, .int 0), (3, .int 0), (0, .ref y), (1, .int (nI i))]) hx hb dX6_rest_108 rfl hl (by decide) rfl (fun ls hl => ?_)
        refine lv_aload_n hx hb dX6_rest_109 rfl (lv_at hl 2 rfl) ?_
        refine m_arr (f := 2) (by unfold mArr; decide) hx hb hts hi6 hown hA hH (hts (.fieldLink RX6 7 "ParoleCardsModel" "isOut" "[Z") (by decide +kernel)) rfl dX6_rest_110 ?_
        refine lv_iload_n hx hb dX6_rest_113 rfl (lv_at hl 3 rfl) ?_
        refine m_zald (f := 2) (v := (B 2 i)) (by unfold mArr; decide) rfl hx hb hA hH i rfl (by rw [show mLen 2 = 10 from rfl]; omega) rfl dX6_rest_114 ?_
        refine lv_if_ne (tgt := 123) hx hb dX6_rest_115 (by decide) (fun c_7 => ?_) (fun c_7 => ?_)
        · refine lv_iconst (v := 0) hx hb dX6_rest_123 (by decide) ?_
          refine lv_goto (tgt := 130) hx hb dX6_rest_124 (by decide) ?_
          exact z_iret hx hb hr hlocks hH hS ⟨by first | contradiction | (simp [sRest, sTop, sBought, c_2, Int32.not_lt.mpr c_2, c_3, c_4, Int32.not_le.mp c_4, c_7]; done), rfl⟩ (by decide) (by decide) dX6_rest_130
        · refine lv_iload_n hx hb dX6_rest_118 rfl (lv_at hl 0 rfl) ?_
          refine lv_iload_n hx hb dX6_rest_119 rfl (lv_at hl 1 rfl) ?_
          refine lv_icmp_ge (tgt := 127) hx hb dX6_rest_120 (by decide) (fun _ => ?_) (fun c_8 => absurd (by decide) c_8)
          refine lv_iload_n hx hb dX6_rest_127 rfl (lv_at hl 0 rfl) ?_
          refine lv_iload_n hx hb dX6_rest_128 rfl (lv_at hl 1 rfl) ?_
          refine lv_isub hx hb dX6_rest_129 ?_
          exact z_iret hx hb hr hlocks hH hS ⟨by first | contradiction | (simp [sRest, sTop, sBought, c_2, Int32.not_lt.mpr c_2, c_3, c_4, Int32.not_le.mp c_4, c_7]; done), rfl⟩ (by decide) (by decide) dX6_rest_130
    · refine lv_aload_n hx hb dX6_rest_88 rfl (lv_at hl 0 rfl) ?_
      refine m_arr (f := 16) (by unfold mArr; decide) hx hb hts hi6 hown hA hH (hts (.fieldLink RX6 53 "ParoleCardsModel" "bought" "[I") (by decide +kernel)) rfl dX6_rest_89 ?_
      refine lv_iload_n hx hb dX6_rest_92 rfl (lv_at hl 1 rfl) ?_
      refine m_iald (f := 16) (v := (B 16 i)) (by unfold mArr; decide) rfl hx hb hA hH i rfl (by rw [show mLen 16 = 10 from rfl]; omega) rfl dX6_rest_93 ?_
      refine lv_goto (tgt := 98) hx hb dX6_rest_94 (by decide) ?_
      refine lv_istore_n (lv' := [(3, .int (B 16 i)), (0, .ref y), (1, .int (nI i)), (2, .int (sMost B i (oc B i)))]) hx hb dX6_rest_98 rfl hl (by decide) rfl (fun ls hl => ?_)
      refine lv_iload_n hx hb dX6_rest_99 rfl (lv_at hl 3 rfl) ?_
      refine lv_if_ge (tgt := 107) hx hb dX6_rest_100 (by decide) (fun c_9 => ?_) (fun c_9 => ?_)
      · refine lv_iload_n hx hb dX6_rest_107 rfl (lv_at hl 3 rfl) ?_
        refine lv_istore_n (lv' := [(2, .int (sMost B i (oc B i))), (3, .int (B 16 i)), (0, .ref y), (1, .int (nI i))]) hx hb dX6_rest_108 rfl hl (by decide) rfl (fun ls hl => ?_)
        refine lv_aload_n hx hb dX6_rest_109 rfl (lv_at hl 2 rfl) ?_
        refine m_arr (f := 2) (by unfold mArr; decide) hx hb hts hi6 hown hA hH (hts (.fieldLink RX6 7 "ParoleCardsModel" "isOut" "[Z") (by decide +kernel)) rfl dX6_rest_110 ?_
        refine lv_iload_n hx hb dX6_rest_113 rfl (lv_at hl 3 rfl) ?_
        refine m_zald (f := 2) (v := (B 2 i)) (by unfold mArr; decide) rfl hx hb hA hH i rfl (by rw [show mLen 2 = 10 from rfl]; omega) rfl dX6_rest_114 ?_
        refine lv_if_ne (tgt := 123) hx hb dX6_rest_115 (by decide) (fun c_10 => ?_) (fun c_10 => ?_)
        · refine lv_iconst (v := 0) hx hb dX6_rest_123 (by decide) ?_
          refine lv_goto (tgt := 130) hx hb dX6_rest_124 (by decide) ?_
          exact z_iret hx hb hr hlocks hH hS ⟨by first | contradiction | (simp [sRest, sTop, sBought, c_2, Int32.not_lt.mpr c_2, c_3, c_9, Int32.not_lt.mpr c_9, c_10]; done), rfl⟩ (by decide) (by decide) dX6_rest_130
        · refine lv_iload_n hx hb dX6_rest_118 rfl (lv_at hl 0 rfl) ?_
          refine lv_iload_n hx hb dX6_rest_119 rfl (lv_at hl 1 rfl) ?_
          refine lv_icmp_ge (tgt := 127) hx hb dX6_rest_120 (by decide) (fun c_11 => ?_) (fun c_11 => ?_)
          · refine lv_iload_n hx hb dX6_rest_127 rfl (lv_at hl 0 rfl) ?_
            refine lv_iload_n hx hb dX6_rest_128 rfl (lv_at hl 1 rfl) ?_
            refine lv_isub hx hb dX6_rest_129 ?_
            exact z_iret hx hb hr hlocks hH hS ⟨by first | contradiction | (simp [sRest, sTop, sBought, c_2, Int32.not_lt.mpr c_2, c_3, c_9, Int32.not_lt.mpr c_9, c_10, c_11, Int32.not_lt.mpr c_11]; done), rfl⟩ (by decide) (by decide) dX6_rest_130
          · refine lv_iconst (v := 0) hx hb dX6_rest_123 (by decide) ?_
            refine lv_goto (tgt := 130) hx hb dX6_rest_124 (by decide) ?_
            exact z_iret hx hb hr hlocks hH hS ⟨by first | contradiction | (simp [sRest, sTop, sBought, c_2, Int32.not_lt.mpr c_2, c_3, c_9, Int32.not_lt.mpr c_9, c_10, c_11, Int32.not_le.mp c_11]; done), rfl⟩ (by decide) (by decide) dX6_rest_130
      · refine lv_iconst (v := 0) hx hb dX6_rest_103 (by decide) ?_
        refine lv_goto (tgt := 108) hx hb dX6_rest_104 (by decide) ?_
        refine lv_istore_n (lv' := [(2, .int 0), (3, .int (B 16 i)), (0, .ref y), (1, .int (nI i))]) hx hb dX6_rest_108 rfl hl (by decide) rfl (fun ls hl => ?_)
        refine lv_aload_n hx hb dX6_rest_109 rfl (lv_at hl 2 rfl) ?_
        refine m_arr (f := 2) (by unfold mArr; decide) hx hb hts hi6 hown hA hH (hts (.fieldLink RX6 7 "ParoleCardsModel" "isOut" "[Z") (by decide +kernel)) rfl dX6_rest_110 ?_
        refine lv_iload_n hx hb dX6_rest_113 rfl (lv_at hl 3 rfl) ?_
        refine m_zald (f := 2) (v := (B 2 i)) (by unfold mArr; decide) rfl hx hb hA hH i rfl (by rw [show mLen 2 = 10 from rfl]; omega) rfl dX6_rest_114 ?_
        refine lv_if_ne (tgt := 123) hx hb dX6_rest_115 (by decide) (fun c_12 => ?_) (fun c_12 => ?_)
        · refine lv_iconst (v := 0) hx hb dX6_rest_123 (by decide) ?_
          refine lv_goto (tgt := 130) hx hb dX6_rest_124 (by decide) ?_
          exact z_iret hx hb hr hlocks hH hS ⟨by first | contradiction | (simp [sRest, sTop, sBought, c_2, Int32.not_lt.mpr c_2, c_3, c_9, Int32.not_le.mp c_9, c_12]; done), rfl⟩ (by decide) (by decide) dX6_rest_130
        · refine lv_iload_n hx hb dX6_rest_118 rfl (lv_at hl 0 rfl) ?_
          refine lv_iload_n hx hb dX6_rest_119 rfl (lv_at hl 1 rfl) ?_
          refine lv_icmp_ge (tgt := 127) hx hb dX6_rest_120 (by decide) (fun c_13 => ?_) (fun c_13 => ?_)
          · refine lv_iload_n hx hb dX6_rest_127 rfl (lv_at hl 0 rfl) ?_
            refine lv_iload_n hx hb dX6_rest_128 rfl (lv_at hl 1 rfl) ?_
            refine lv_isub hx hb dX6_rest_129 ?_
            exact z_iret hx hb hr hlocks hH hS ⟨by first | contradiction | (simp [sRest, sTop, sBought, c_2, Int32.not_lt.mpr c_2, c_3, c_9, Int32.not_le.mp c_9, c_12, c_13, Int32.not_lt.mpr c_13]; done), rfl⟩ (by decide) (by decide) dX6_rest_130
          · refine lv_iconst (v := 0) hx hb dX6_rest_123 (by decide) ?_
            refine lv_goto (tgt := 130) hx hb dX6_rest_124 (by decide) ?_
            exact z_iret hx hb hr hlocks hH hS ⟨by first | contradiction | (simp [sRest, sTop, sBought, c_2, Int32.not_lt.mpr c_2, c_3, c_9, Int32.not_le.mp c_9, c_12, c_13, Int32.not_le.mp c_13]; done), rfl⟩ (by decide) (by decide) dX6_rest_130
  · intro k hk ih u H locs ls hu hH hS hl
    rw [hu] at hH
    refine lv_iload_n hx hb dX6_rest_18 rfl (lv_at hl 3 rfl) ?_
    refine lv_bipush (v := 50) hx hb dX6_rest_19 (by decide) ?_
    refine lv_iload_n hx hb dX6_rest_21 rfl (lv_at hl 1 rfl) ?_
    refine lv_imul hx hb dX6_rest_22 ?_
    refine lv_aload_n hx hb dX6_rest_23 rfl (lv_at hl 0 rfl) ?_
    refine m_arr (f := 10) (by unfold mArr; decide) hx hb hts hi6 hown hA hH (hts (.fieldLink RX6 35 "ParoleCardsModel" "offences" "[I") (by decide +kernel)) rfl dX6_rest_24 ?_
    refine lv_iload_n hx hb dX6_rest_27 rfl (lv_at hl 1 rfl) ?_
    refine m_iald (f := 10) (v := (B 10 i)) (by unfold mArr; decide) rfl hx hb hA hH i rfl (by rw [show mLen 10 = 10 from rfl]; omega) rfl dX6_rest_28 ?_
    refine lv_iadd hx hb dX6_rest_29 ?_
    refine lv_icmp_ge (tgt := 72) hx hb dX6_rest_30 (by decide) (fun c_14 => absurd c_14 (by rw [(show (50 * nI i) + (B 10 i) = nI (50 * i + oc B i) by rw [h10, show (50 : Int32) = nI 50 from rfl, pk_mul, nI_add])]; exact nI_ge (by omega) (by omega))) (fun c_14 => ?_)
    refine lv_iload_n hx hb dX6_rest_33 rfl (lv_at hl 2 rfl) ?_
    refine lv_aload_n hx hb dX6_rest_34 rfl (lv_at hl 0 rfl) ?_
    refine m_arr (f := 20) (by unfold mArr; decide) hx hb hts hi6 hown hA hH (hts (.fieldLink RX6 65 "ParoleCardsModel" "isAppealed" "[Z") (by decide +kernel)) rfl dX6_rest_35 ?_
    refine lv_iload_n hx hb dX6_rest_38 rfl (lv_at hl 3 rfl) ?_
    refine m_zald (f := 20) (v := (B 20 (50 * i + k))) (by unfold mArr; decide) rfl hx hb hA hH (50 * i + k) rfl (by rw [show mLen 20 = 500 from rfl]; omega) rfl dX6_rest_39 ?_
    refine lv_if_ne (tgt := 63) hx hb dX6_rest_40 (by decide) (fun c_15 => ?_) (fun c_15 => ?_)
    · refine lv_iconst (v := 0) hx hb dX6_rest_63 (by decide) ?_
      refine lv_isub hx hb dX6_rest_64 ?_
      refine lv_istore_n (lv' := [(2, .int ((sMost B i k) - 0)), (0, .ref y), (1, .int (nI i)), (3, .int (nI (50 * i + k)))]) hx hb dX6_rest_65 rfl hl (by decide) rfl (fun ls hl => ?_)
      refine lv_iinc (v := ((nI (50 * i + k)) + 1)) (lv' := [(3, .int ((nI (50 * i + k)) + 1)), (2, .int ((sMost B i k) - 0)), (0, .ref y), (1, .int (nI i))]) hx hb dX6_rest_66 hl (k := 3) rfl rfl (by decide) rfl (fun ls hl => ?_)
      refine lv_goto (tgt := 18) hx hb dX6_rest_69 (by decide) ?_
      have hl_16 : lv_has ls 4 [(0, .ref y), (1, .int (nI i)), (2, .int ((sMost B i k) - 0)), (3, .int ((nI (50 * i + k)) + 1))] := lv_sub hl [2, 3, 1, 0] rfl
      rw [show (((sMost B i k) - 0) : Int32) = (sMost B i (k + 1)) from (by simp [sMost, c_14, Int32.not_le.mp c_14, c_15])] at hl_16
      rw [show (((nI (50 * i + k)) + 1) : Int32) = (nI (50 * i + (k + 1))) from (nI_1 _)] at hl_16
      have hl_16 : lv_has ls 4 [(0, .ref y), (1, .int (nI i)), (2, .int (sMost B i (k + 1))), (3, .int (nI (50 * i + (k + 1))))] := hl_16
      exact ih _ _ _ _ rfl hH hS hl_16
    · refine lv_aload_n hx hb dX6_rest_43 rfl (lv_at hl 0 rfl) ?_
      refine m_num (f := 0) (v := (B 0 0)) (by unfold mNum; decide) hx hb hts hi6 hown hA hH (hts (.fieldLink RX6 101 "ParoleCardsModel" "today" "I") (by decide +kernel)) rfl dX6_rest_44 ?_
      refine lv_aload_n hx hb dX6_rest_47 rfl (lv_at hl 0 rfl) ?_
      refine m_arr (f := 18) (by unfold mArr; decide) hx hb hts hi6 hown hA hH (hts (.fieldLink RX6 59 "ParoleCardsModel" "lostOn" "[I") (by decide +kernel)) rfl dX6_rest_48 ?_
      refine lv_iload_n hx hb dX6_rest_51 rfl (lv_at hl 3 rfl) ?_
      refine m_iald (f := 18) (v := (B 18 (50 * i + k))) (by unfold mArr; decide) rfl hx hb hA hH (50 * i + k) rfl (by rw [show mLen 18 = 500 from rfl]; omega) rfl dX6_rest_52 ?_
      refine lv_isub hx hb dX6_rest_53 ?_
      refine lv_bipush (v := 29) hx hb dX6_rest_54 (by decide) ?_
      refine lv_icmp_gt (tgt := 63) hx hb dX6_rest_56 (by decide) (fun c_17 => ?_) (fun c_17 => ?_)
      · refine lv_iconst (v := 0) hx hb dX6_rest_63 (by decide) ?_
        refine lv_isub hx hb dX6_rest_64 ?_
        refine lv_istore_n (lv' := [(2, .int ((sMost B i k) - 0)), (0, .ref y), (1, .int (nI i)), (3, .int (nI (50 * i + k)))]) hx hb dX6_rest_65 rfl hl (by decide) rfl (fun ls hl => ?_)
        refine lv_iinc (v := ((nI (50 * i + k)) + 1)) (lv' := [(3, .int ((nI (50 * i + k)) + 1)), (2, .int ((sMost B i k) - 0)), (0, .ref y), (1, .int (nI i))]) hx hb dX6_rest_66 hl (k := 3) rfl rfl (by decide) rfl (fun ls hl => ?_)
        refine lv_goto (tgt := 18) hx hb dX6_rest_69 (by decide) ?_
        have hl_18 : lv_has ls 4 [(0, .ref y), (1, .int (nI i)), (2, .int ((sMost B i k) - 0)), (3, .int ((nI (50 * i + k)) + 1))] := lv_sub hl [2, 3, 1, 0] rfl
        rw [show (((sMost B i k) - 0) : Int32) = (sMost B i (k + 1)) from (by simp [sMost, c_14, Int32.not_le.mp c_14, c_15, c_17, Int32.not_le.mpr c_17])] at hl_18
        rw [show (((nI (50 * i + k)) + 1) : Int32) = (nI (50 * i + (k + 1))) from (nI_1 _)] at hl_18
        have hl_18 : lv_has ls 4 [(0, .ref y), (1, .int (nI i)), (2, .int (sMost B i (k + 1))), (3, .int (nI (50 * i + (k + 1))))] := hl_18
        exact ih _ _ _ _ rfl hH hS hl_18
      · refine lv_iconst (v := 5) hx hb dX6_rest_59 (by decide) ?_
        refine lv_goto (tgt := 64) hx hb dX6_rest_60 (by decide) ?_
        refine lv_isub hx hb dX6_rest_64 ?_
        refine lv_istore_n (lv' := [(2, .int ((sMost B i k) - 5)), (0, .ref y), (1, .int (nI i)), (3, .int (nI (50 * i + k)))]) hx hb dX6_rest_65 rfl hl (by decide) rfl (fun ls hl => ?_)
        refine lv_iinc (v := ((nI (50 * i + k)) + 1)) (lv' := [(3, .int ((nI (50 * i + k)) + 1)), (2, .int ((sMost B i k) - 5)), (0, .ref y), (1, .int (nI i))]) hx hb dX6_rest_66 hl (k := 3) rfl rfl (by decide) rfl (fun ls hl => ?_)
        refine lv_goto (tgt := 18) hx hb dX6_rest_69 (by decide) ?_
        have hl_19 : lv_has ls 4 [(0, .ref y), (1, .int (nI i)), (2, .int ((sMost B i k) - 5)), (3, .int ((nI (50 * i + k)) + 1))] := lv_sub hl [2, 3, 1, 0] rfl
        rw [show (((sMost B i k) - 5) : Int32) = (sMost B i (k + 1)) from (by simp [sMost, c_14, Int32.not_le.mp c_14, c_15, c_17, Int32.not_lt.mp c_17])] at hl_19
        rw [show (((nI (50 * i + k)) + 1) : Int32) = (nI (50 * i + (k + 1))) from (nI_1 _)] at hl_19
        have hl_19 : lv_has ls 4 [(0, .ref y), (1, .int (nI i)), (2, .int (sMost B i (k + 1))), (3, .int (nI (50 * i + (k + 1))))] := hl_19
        exact ih _ _ _ _ rfl hH hS hl_19
set_option maxHeartbeats 4000000 in
set_option maxRecDepth 100000 in
theorem c6_works (l : Launch) (D : va_G) (cy : Nat → ClassId) (base : Nat) (w0 : zW) (y : Nat) (r : Nat → Nat) (B : Nat → Nat → Int32) (i : Nat) (hi : i < 10) (hox : B 11 i = -1 ∨ (B 11 i = nI (ox B i) ∧ ox B i < 8)) : Met l yX6_works wsX6_works ({ frames := 0, cells := 0, slots := 0, locals := 0 }) (zPc D cy base (mH D cy base w0 y r) [.ref y, .int (nI i)] B) (zQv base (mH D cy base w0 y r) (fun (u0 : Nat → Nat → Int32) => u0 = (sWork B i))) 0 0 (fun q => base ≤ q) := by
  refine Met.ofW (cc := cX6_works) (maxL := 5) (ret := none) (by decide) rfl ?_
  intro p e s m args below meth c s₁ B9 hml hv
  obtain ⟨rfl, hA, hH⟩ := hv
  have hx := B9.exec
  have hb := B9.bytes
  have hr := B9.returns
  have hts := atoms_spec (ws := wsX6_works) B9.pre
  have hown : s.vm.findClass RX6 = some m.cls := findClass_of_methodNamed B9.named
  have hlocks := B9.notSynchronized
  have hi6 : ∀ w ∈ wsX60, w ∈ wsX6_works := by decide +kernel
  have hS : va_S (fun q : Nat => base ≤ q) s.heap s.heap [] := va_S.rf
  have hl := lv_entry ([.ref y, .int (nI i)]) (n := 5) (Nat.le_of_ble_eq_true rfl)
  rw [lg_entry_eq]
  generalize (lg_sl ([.ref y, .int (nI i)]) ++ List.replicate (5 - (lg_sl ([.ref y, .int (nI i)])).length) Slot.unset).toArray = ls at hl ⊢
  have hl : lv_has ls 5 [(0, .ref y), (1, .int (nI i))] := hl
  refine lv_aload_n hx hb dX6_works_0 rfl (lv_at hl 0 rfl) ?_
  refine m_arr (f := 11) (by unfold mArr; decide) hx hb hts hi6 hown hA hH (hts (.fieldLink RX6 38 "ParoleCardsModel" "on" "[I") (by decide +kernel)) rfl dX6_works_1 ?_
  refine lv_iload_n hx hb dX6_works_4 rfl (lv_at hl 1 rfl) ?_
  refine m_iald (f := 11) (v := (B 11 i)) (by unfold mArr; decide) rfl hx hb hA hH i rfl (by rw [show mLen 11 = 10 from rfl]; omega) rfl dX6_works_5 ?_
  refine lv_istore_n (lv' := [(2, .int (B 11 i)), (0, .ref y), (1, .int (nI i))]) hx hb dX6_works_6 rfl hl (by decide) rfl (fun ls hl => ?_)
  refine lv_iload_n hx hb dX6_works_7 rfl (lv_at hl 0 rfl) ?_
  refine lv_iconst (v := (-1)) hx hb dX6_works_8 (by decide) ?_
  refine lv_icmp_eq (tgt := 21) hx hb dX6_works_9 (by decide) (fun c_1 => ?_) (fun c_1 => ?_)
  · exact z_vret hx hb hr hlocks hH hS (by simp [sWork, c_1]) (by decide) (by decide) dX6_works_21
  · refine lv_aload_n hx hb dX6_works_12 rfl (lv_at hl 1 rfl) ?_
    refine m_arr (f := 25) (by unfold mArr; decide) hx hb hts hi6 hown hA hH (hts (.fieldLink RX6 77 "ParoleCardsModel" "left" "[I") (by decide +kernel)) rfl dX6_works_13 ?_
    refine lv_iload_n hx hb dX6_works_16 rfl (lv_at hl 0 rfl) ?_
    refine m_iald (f := 25) (v := (B 25 (ox B i))) (by unfold mArr; decide) rfl hx hb hA hH (ox B i) (hox.resolve_left c_1).1 (hox.resolve_left c_1).2 rfl dX6_works_17 ?_
    refine lv_if_ne (tgt := 22) hx hb dX6_works_18 (by decide) (fun c_2 => ?_) (fun c_2 => ?_)
    · refine lv_aload_n hx hb dX6_works_22 rfl (lv_at hl 1 rfl) ?_
      refine m_arr (f := 25) (by unfold mArr; decide) hx hb hts hi6 hown hA hH (hts (.fieldLink RX6 77 "ParoleCardsModel" "left" "[I") (by decide +kernel)) rfl dX6_works_23 ?_
      refine lv_iload_n hx hb dX6_works_26 rfl (lv_at hl 0 rfl) ?_
      refine lv_dup2_11 hx hb dX6_works_27 rfl rfl ?_
      refine m_iald (f := 25) (v := (B 25 (ox B i))) (by unfold mArr; decide) rfl hx hb hA hH (ox B i) (hox.resolve_left c_1).1 (hox.resolve_left c_1).2 rfl dX6_works_28 ?_
      refine lv_iconst (v := 1) hx hb dX6_works_29 (by decide) ?_
      refine lv_isub hx hb dX6_works_30 ?_
      refine m_iast (f := 25) (by unfold mArr; decide) rfl hx hb hA hH hS (ox B i) (hox.resolve_left c_1).1 (hox.resolve_left c_1).2 dX6_works_31 (fun H locs hH hS => ?_)
      refine lv_aload_n hx hb dX6_works_32 rfl (lv_at hl 1 rfl) ?_
      refine m_arr (f := 7) (by unfold mArr; decide) hx hb hts hi6 hown hA hH (hts (.fieldLink RX6 26 "ParoleCardsModel" "worked" "[I") (by decide +kernel)) rfl dX6_works_33 ?_
      refine lv_iload_n hx hb dX6_works_36 rfl (lv_at hl 2 rfl) ?_
      refine lv_dup2_11 hx hb dX6_works_37 rfl rfl ?_
      refine m_iald (f := 7) (v := (B 7 i)) (by unfold mArr; decide) rfl hx hb hA hH i rfl (by rw [show mLen 7 = 10 from rfl]; omega) rfl dX6_works_38 ?_
      refine lv_iconst (v := 1) hx hb dX6_works_39 (by decide) ?_
      refine lv_iadd hx hb dX6_works_40 ?_
      refine m_iast (f := 7) (by unfold mArr; decide) rfl hx hb hA hH hS i rfl (by rw [show mLen 7 = 10 from rfl]; omega) dX6_works_41 (fun H locs hH hS => ?_)
      refine lv_aload_n hx hb dX6_works_42 rfl (lv_at hl 1 rfl) ?_
      refine m_arr (f := 26) (by unfold mArr; decide) hx hb hts hi6 hown hA hH (hts (.fieldLink RX6 80 "ParoleCardsModel" "wage" "[I") (by decide +kernel)) rfl dX6_works_43 ?_
      refine lv_iload_n hx hb dX6_works_46 rfl (lv_at hl 0 rfl) ?_
      refine m_iald (f := 26) (v := (B 26 (ox B i))) (by unfold mArr; decide) rfl hx hb hA hH (ox B i) (hox.resolve_left c_1).1 (hox.resolve_left c_1).2 rfl dX6_works_47 ?_
      refine lv_bipush (v := 30) hx hb dX6_works_48 (by decide) ?_
      refine lv_imul hx hb dX6_works_50 ?_
      refine lv_bipush (v := 100) hx hb dX6_works_51 (by decide) ?_
      refine lv_idiv hx hb dX6_works_53 (by decide) ?_
      refine lv_istore_n (lv' := [(3, .int (((B 26 (ox B i)) * 30) / 100)), (2, .int (B 11 i)), (0, .ref y), (1, .int (nI i))]) hx hb dX6_works_54 rfl hl (by decide) rfl (fun ls hl => ?_)
      refine lv_aload_n hx hb dX6_works_55 rfl (lv_at hl 2 rfl) ?_
      refine m_arr (f := 26) (by unfold mArr; decide) hx hb hts hi6 hown hA hH (hts (.fieldLink RX6 80 "ParoleCardsModel" "wage" "[I") (by decide +kernel)) rfl dX6_works_56 ?_
      refine lv_iload_n hx hb dX6_works_59 rfl (lv_at hl 1 rfl) ?_
      refine m_iald (f := 26) (v := (B 26 (ox B i))) (by unfold mArr; decide) rfl hx hb hA hH (ox B i) (hox.resolve_left c_1).1 (hox.resolve_left c_1).2 rfl dX6_works_60 ?_
      refine lv_bipush (v := 20) hx hb dX6_works_61 (by decide) ?_
      refine lv_imul hx hb dX6_works_63 ?_
      refine lv_bipush (v := 100) hx hb dX6_works_64 (by decide) ?_
      refine lv_idiv hx hb dX6_works_66 (by decide) ?_
      refine lv_istore (lv' := [(4, .int (((B 26 (ox B i)) * 20) / 100)), (3, .int (((B 26 (ox B i)) * 30) / 100)), (2, .int (B 11 i)), (0, .ref y), (1, .int (nI i))]) hx hb dX6_works_67 hl (by decide) rfl (fun ls hl => ?_)
      refine lv_aload_n hx hb dX6_works_69 rfl (lv_at hl 3 rfl) ?_
      refine m_arr (f := 14) (by unfold mArr; decide) hx hb hts hi6 hown hA hH (hts (.fieldLink RX6 47 "ParoleCardsModel" "account" "[I") (by decide +kernel)) rfl dX6_works_70 ?_
      refine lv_iconst (v := 4) hx hb dX6_works_73 (by decide) ?_
      refine lv_iload_n hx hb dX6_works_74 rfl (lv_at hl 4 rfl) ?_
      refine lv_imul hx hb dX6_works_75 ?_
      refine lv_iconst (v := 0) hx hb dX6_works_76 (by decide) ?_
      refine lv_iadd hx hb dX6_works_77 ?_
      refine lv_dup2_11 hx hb dX6_works_78 rfl rfl ?_
      refine m_iald (f := 14) (v := (B 14 (4 * i + 0))) (by unfold mArr; decide) rfl hx hb hA hH (4 * i + 0) (by simp only [show (4 : Int32) = nI 4 from rfl, show (0 : Int32) = nI 0 from rfl, show (1 : Int32) = nI 1 from rfl, show (2 : Int32) = nI 2 from rfl, show (3 : Int32) = nI 3 from rfl, show (50 : Int32) = nI 50 from rfl, pk_mul, nI_add]) (by rw [show mLen 14 = 40 from rfl]; omega) rfl dX6_works_79 ?_
      refine lv_iload_n hx hb dX6_works_80 rfl (lv_at hl 1 rfl) ?_
      refine lv_iadd hx hb dX6_works_81 ?_
      refine m_iast (f := 14) (by unfold mArr; decide) rfl hx hb hA hH hS (4 * i + 0) (by simp only [show (4 : Int32) = nI 4 from rfl, show (0 : Int32) = nI 0 from rfl, show (1 : Int32) = nI 1 from rfl, show (2 : Int32) = nI 2 from rfl, show (3 : Int32) = nI 3 from rfl, show (50 : Int32) = nI 50 from rfl, pk_mul, nI_add]) (by rw [show mLen 14 = 40 from rfl]; omega) dX6_works_82 (fun H locs hH hS => ?_)
      refine lv_aload_n hx hb dX6_works_83 rfl (lv_at hl 3 rfl) ?_
      refine m_arr (f := 14) (by unfold mArr; decide) hx hb hts hi6 hown hA hH (hts (.fieldLink RX6 47 "ParoleCardsModel" "account" "[I") (by decide +kernel)) rfl dX6_works_84 ?_
      refine lv_iconst (v := 4) hx hb dX6_works_87 (by decide) ?_
      refine lv_iload_n hx hb dX6_works_88 rfl (lv_at hl 4 rfl) ?_
      refine lv_imul hx hb dX6_works_89 ?_
      refine lv_iconst (v := 1) hx hb dX6_works_90 (by decide) ?_
      refine lv_iadd hx hb dX6_works_91 ?_
      refine lv_dup2_11 hx hb dX6_works_92 rfl rfl ?_
      refine m_iald (f := 14) (v := (B 14 (4 * i + 1))) (by unfold mArr; decide) rfl hx hb hA hH (4 * i + 1) (by simp only [show (4 : Int32) = nI 4 from rfl, show (0 : Int32) = nI 0 from rfl, show (1 : Int32) = nI 1 from rfl, show (2 : Int32) = nI 2 from rfl, show (3 : Int32) = nI 3 from rfl, show (50 : Int32) = nI 50 from rfl, pk_mul, nI_add]) (by rw [show mLen 14 = 40 from rfl]; omega) (by simp [z2, va_up]) dX6_works_93 ?_
      refine lv_iload hx hb dX6_works_94 (lv_at hl 0 rfl) ?_
      refine lv_iadd hx hb dX6_works_96 ?_
      refine m_iast (f := 14) (by unfold mArr; decide) rfl hx hb hA hH hS (4 * i + 1) (by simp only [show (4 : Int32) = nI 4 from rfl, show (0 : Int32) = nI 0 from rfl, show (1 : Int32) = nI 1 from rfl, show (2 : Int32) = nI 2 from rfl, show (3 : Int32) = nI 3 from rfl, show (50 : Int32) = nI 50 from rfl, pk_mul, nI_add]) (by rw [show mLen 14 = 40 from rfl]; omega) dX6_works_97 (fun H locs hH hS => ?_)
      refine lv_aload_n hx hb dX6_works_98 rfl (lv_at hl 3 rfl) ?_
      refine m_arr (f := 14) (by unfold mArr; decide) hx hb hts hi6 hown hA hH (hts (.fieldLink RX6 47 "ParoleCardsModel" "account" "[I") (by decide +kernel)) rfl dX6_works_99 ?_
      refine lv_iconst (v := 4) hx hb dX6_works_102 (by decide) ?_
      refine lv_iload_n hx hb dX6_works_103 rfl (lv_at hl 4 rfl) ?_
      refine lv_imul hx hb dX6_works_104 ?_
      refine lv_iconst (v := 2) hx hb dX6_works_105 (by decide) ?_
      refine lv_iadd hx hb dX6_works_106 ?_
      refine lv_dup2_11 hx hb dX6_works_107 rfl rfl ?_
      refine m_iald (f := 14) (v := (B 14 (4 * i + 2))) (by unfold mArr; decide) rfl hx hb hA hH (4 * i + 2) (by simp only [show (4 : Int32) = nI 4 from rfl, show (0 : Int32) = nI 0 from rfl, show (1 : Int32) = nI 1 from rfl, show (2 : Int32) = nI 2 from rfl, show (3 : Int32) = nI 3 from rfl, show (50 : Int32) = nI 50 from rfl, pk_mul, nI_add]) (by rw [show mLen 14 = 40 from rfl]; omega) (by simp [z2, va_up]) dX6_works_108 ?_
      refine lv_iload_n hx hb dX6_works_109 rfl (lv_at hl 1 rfl) ?_
      refine lv_iadd hx hb dX6_works_110 ?_
      refine m_iast (f := 14) (by unfold mArr; decide) rfl hx hb hA hH hS (4 * i + 2) (by simp only [show (4 : Int32) = nI 4 from rfl, show (0 : Int32) = nI 0 from rfl, show (1 : Int32) = nI 1 from rfl, show (2 : Int32) = nI 2 from rfl, show (3 : Int32) = nI 3 from rfl, show (50 : Int32) = nI 50 from rfl, pk_mul, nI_add]) (by rw [show mLen 14 = 40 from rfl]; omega) dX6_works_111 (fun H locs hH hS => ?_)
      refine lv_aload_n hx hb dX6_works_112 rfl (lv_at hl 3 rfl) ?_
      refine m_arr (f := 14) (by unfold mArr; decide) hx hb hts hi6 hown hA hH (hts (.fieldLink RX6 47 "ParoleCardsModel" "account" "[I") (by decide +kernel)) rfl dX6_works_113 ?_
      refine lv_iconst (v := 4) hx hb dX6_works_116 (by decide) ?_
      refine lv_iload_n hx hb dX6_works_117 rfl (lv_at hl 4 rfl) ?_
      refine lv_imul hx hb dX6_works_118 ?_
      refine lv_iconst (v := 3) hx hb dX6_works_119 (by decide) ?_
      refine lv_iadd hx hb dX6_works_120 ?_
      refine lv_dup2_11 hx hb dX6_works_121 rfl rfl ?_
      refine m_iald (f := 14) (v := (B 14 (4 * i + 3))) (by unfold mArr; decide) rfl hx hb hA hH (4 * i + 3) (by simp only [show (4 : Int32) = nI 4 from rfl, show (0 : Int32) = nI 0 from rfl, show (1 : Int32) = nI 1 from rfl, show (2 : Int32) = nI 2 from rfl, show (3 : Int32) = nI 3 from rfl, show (50 : Int32) = nI 50 from rfl, pk_mul, nI_add]) (by rw [show mLen 14 = 40 from rfl]; omega) (by simp [z2, va_up]) dX6_works_122 ?_
      refine lv_aload_n hx hb dX6_works_123 rfl (lv_at hl 3 rfl) ?_
      refine m_arr (f := 26) (by unfold mArr; decide) hx hb hts hi6 hown hA hH (hts (.fieldLink RX6 80 "ParoleCardsModel" "wage" "[I") (by decide +kernel)) rfl dX6_works_124 ?_
      refine lv_iload_n hx hb dX6_works_127 rfl (lv_at hl 2 rfl) ?_
      refine m_iald (f := 26) (v := (B 26 (ox B i))) (by unfold mArr; decide) rfl hx hb hA hH (ox B i) (hox.resolve_left c_1).1 (hox.resolve_left c_1).2 rfl dX6_works_128 ?_
      refine lv_iload_n hx hb dX6_works_129 rfl (lv_at hl 1 rfl) ?_
      refine lv_isub hx hb dX6_works_130 ?_
      refine lv_iload hx hb dX6_works_131 (lv_at hl 0 rfl) ?_
      refine lv_isub hx hb dX6_works_133 ?_
      refine lv_iload_n hx hb dX6_works_134 rfl (lv_at hl 1 rfl) ?_
      refine lv_isub hx hb dX6_works_135 ?_
      refine lv_iadd hx hb dX6_works_136 ?_
      refine m_iast (f := 14) (by unfold mArr; decide) rfl hx hb hA hH hS (4 * i + 3) (by simp only [show (4 : Int32) = nI 4 from rfl, show (0 : Int32) = nI 0 from rfl, show (1 : Int32) = nI 1 from rfl, show (2 : Int32) = nI 2 from rfl, show (3 : Int32) = nI 3 from rfl, show (50 : Int32) = nI 50 from rfl, pk_mul, nI_add]) (by rw [show mLen 14 = 40 from rfl]; omega) dX6_works_137 (fun H locs hH hS => ?_)
      exact z_vret hx hb hr hlocks hH hS (by simp [sWork, c_1, c_2]) (by decide) (by decide) dX6_works_138
    · exact z_vret hx hb hr hlocks hH hS (by simp [sWork, c_1, c_2]) (by decide) (by decide) dX6_works_21
set_option maxHeartbeats 4000000 in
set_option maxRecDepth 100000 in
theorem c6_goes (l : Launch) (D : va_G) (cy : Nat → ClassId) (base : Nat) (w0 : zW) (y : Nat) (r : Nat → Nat) (B : Nat → Nat → Int32) (i : Nat) (hi : i < 10) (h10 : B 10 i = nI (oc B i)) (h50 : oc B i ≤ 50) : Met l yX6_goes wsX6_goes ({ frames := 2, cells := 0, slots := 0, locals := 46 }) (zPc D cy base (mH D cy base w0 y r) [.ref y, .int (nI i)] B) (zQi base (mH D cy base w0 y r) (fun (r0 : Int32) (u0 : Nat → Nat → Int32) => r0 = (sGoN B i) ∧ u0 = (sGo B i))) 0 0 (fun q => base ≤ q) := by
  refine Met.ofW (cc := cX6_goes) (maxL := 2) (ret := (some .int)) (by decide) rfl ?_
  intro p e s m args below meth c s₁ B9 hml hv
  obtain ⟨rfl, hA, hH⟩ := hv
  have hx := B9.exec
  have hb := B9.bytes
  have hr := B9.returns
  have hts := atoms_spec (ws := wsX6_goes) B9.pre
  have hown : s.vm.findClass RX6 = some m.cls := findClass_of_methodNamed B9.named
  have hlocks := B9.notSynchronized
  have hi6 : ∀ w ∈ wsX60, w ∈ wsX6_goes := by decide +kernel
  have hS : va_S (fun q : Nat => base ≤ q) s.heap s.heap [] := va_S.rf
  have hl := lv_entry ([.ref y, .int (nI i)]) (n := 2) (Nat.le_of_ble_eq_true rfl)
  rw [lg_entry_eq]
  generalize (lg_sl ([.ref y, .int (nI i)]) ++ List.replicate (2 - (lg_sl ([.ref y, .int (nI i)])).length) Slot.unset).toArray = ls at hl ⊢
  have hl : lv_has ls 2 [(0, .ref y), (1, .int (nI i))] := hl
  refine lv_aload_n hx hb dX6_goes_0 rfl (lv_at hl 0 rfl) ?_
  refine m_arr (f := 2) (by unfold mArr; decide) hx hb hts hi6 hown hA hH (hts (.fieldLink RX6 7 "ParoleCardsModel" "isOut" "[Z") (by decide +kernel)) rfl dX6_goes_1 ?_
  refine lv_iload_n hx hb dX6_goes_4 rfl (lv_at hl 1 rfl) ?_
  refine m_zald (f := 2) (v := (B 2 i)) (by unfold mArr; decide) rfl hx hb hA hH i rfl (by rw [show mLen 2 = 10 from rfl]; omega) rfl dX6_goes_5 ?_
  refine lv_if_ne (tgt := 21) hx hb dX6_goes_6 (by decide) (fun c_1 => ?_) (fun c_1 => ?_)
  · refine lv_iconst (v := 0) hx hb dX6_goes_21 (by decide) ?_
    exact z_iret hx hb hr hlocks hH hS ⟨by simp [sGoN, c_1], by simp [sGo, c_1]⟩ (by decide) (by decide) dX6_goes_22
  · refine lv_aload_n hx hb dX6_goes_9 rfl (lv_at hl 0 rfl) ?_
    refine lv_iload_n hx hb dX6_goes_10 rfl (lv_at hl 1 rfl) ?_
    refine z_calli (va_runV (As := [.int (nI i)]) (rest := []) ⟨hx, hb, hml, hown, hts⟩ (c6_releaseOf l D cy base w0 y r B i (by omega) h10 h50) (cwV 1 hts gX6_goes_X6_releaseOf rfl rfl rfl (by decide +kernel) ⟨Nat.le_of_ble_eq_true rfl, Nat.le_of_ble_eq_true rfl⟩) (z_preV hA hS hH (m_recv hA hH)) rfl rfl hl.1 rfl (lv_room (Nat.le_of_ble_eq_true rfl)) dX6_goes_11 ⟨Nat.le_of_ble_eq_true rfl, Nat.le_of_ble_eq_true rfl⟩) hS (fun r_k_2 u_k_2 H locs hw_k_2 hH hz_k_2 hS => ?_)
    rcases hw_k_2 with ⟨rfl, hu_k_2⟩
    rw [hu_k_2] at hH
    refine lv_aload_n hx hb dX6_goes_14 rfl (lv_at hl 0 rfl) ?_
    refine m_num (f := 0) (v := (B 0 0)) (by unfold mNum; decide) hx hb hts hi6 hown hA hH (hts (.fieldLink RX6 101 "ParoleCardsModel" "today" "I") (by decide +kernel)) rfl dX6_goes_15 ?_
    refine lv_icmp_le (tgt := 23) hx hb dX6_goes_18 (by decide) (fun c_3 => ?_) (fun c_3 => ?_)
    · refine lv_aload_n hx hb dX6_goes_23 rfl (lv_at hl 0 rfl) ?_
      refine m_arr (f := 2) (by unfold mArr; decide) hx hb hts hi6 hown hA hH (hts (.fieldLink RX6 7 "ParoleCardsModel" "isOut" "[Z") (by decide +kernel)) rfl dX6_goes_24 ?_
      refine lv_iload_n hx hb dX6_goes_27 rfl (lv_at hl 1 rfl) ?_
      refine lv_iconst (v := 1) hx hb dX6_goes_28 (by decide) ?_
      refine m_zast (f := 2) (by unfold mArr; decide) rfl hx hb hA hH hS rfl i rfl (by rw [show mLen 2 = 10 from rfl]; omega) dX6_goes_29 (fun H locs hH hS => ?_)
      refine lv_aload_n hx hb dX6_goes_30 rfl (lv_at hl 0 rfl) ?_
      refine m_arr (f := 12) (by unfold mArr; decide) hx hb hts hi6 hown hA hH (hts (.fieldLink RX6 41 "ParoleCardsModel" "released" "[I") (by decide +kernel)) rfl dX6_goes_31 ?_
      refine lv_iload_n hx hb dX6_goes_34 rfl (lv_at hl 1 rfl) ?_
      refine lv_aload_n hx hb dX6_goes_35 rfl (lv_at hl 0 rfl) ?_
      refine m_num (f := 0) (v := (B 0 0)) (by unfold mNum; decide) hx hb hts hi6 hown hA hH (hts (.fieldLink RX6 101 "ParoleCardsModel" "today" "I") (by decide +kernel)) rfl dX6_goes_36 ?_
      refine m_iast (f := 12) (by unfold mArr; decide) rfl hx hb hA hH hS i rfl (by rw [show mLen 12 = 10 from rfl]; omega) dX6_goes_39 (fun H locs hH hS => ?_)
      refine lv_aload_n hx hb dX6_goes_40 rfl (lv_at hl 0 rfl) ?_
      refine m_arr (f := 11) (by unfold mArr; decide) hx hb hts hi6 hown hA hH (hts (.fieldLink RX6 38 "ParoleCardsModel" "on" "[I") (by decide +kernel)) rfl dX6_goes_41 ?_
      refine lv_iload_n hx hb dX6_goes_44 rfl (lv_at hl 1 rfl) ?_
      refine lv_iconst (v := (-1)) hx hb dX6_goes_45 (by decide) ?_
      refine m_iast (f := 11) (by unfold mArr; decide) rfl hx hb hA hH hS i rfl (by rw [show mLen 11 = 10 from rfl]; omega) dX6_goes_46 (fun H locs hH hS => ?_)
      refine lv_aload_n hx hb dX6_goes_47 rfl (lv_at hl 0 rfl) ?_
      refine m_arr (f := 13) (by unfold mArr; decide) hx hb hts hi6 hown hA hH (hts (.fieldLink RX6 44 "ParoleCardsModel" "paid" "[I") (by decide +kernel)) rfl dX6_goes_48 ?_
      refine lv_iload_n hx hb dX6_goes_51 rfl (lv_at hl 1 rfl) ?_
      refine lv_aload_n hx hb dX6_goes_52 rfl (lv_at hl 0 rfl) ?_
      refine m_arr (f := 14) (by unfold mArr; decide) hx hb hts hi6 hown hA hH (hts (.fieldLink RX6 47 "ParoleCardsModel" "account" "[I") (by decide +kernel)) rfl dX6_goes_53 ?_
      refine lv_iconst (v := 4) hx hb dX6_goes_56 (by decide) ?_
      refine lv_iload_n hx hb dX6_goes_57 rfl (lv_at hl 1 rfl) ?_
      refine lv_imul hx hb dX6_goes_58 ?_
      refine lv_iconst (v := 2) hx hb dX6_goes_59 (by decide) ?_
      refine lv_iadd hx hb dX6_goes_60 ?_
      refine m_iald (f := 14) (v := (B 14 (4 * i + 2))) (by unfold mArr; decide) rfl hx hb hA hH (4 * i + 2) (by simp only [show (4 : Int32) = nI 4 from rfl, show (0 : Int32) = nI 0 from rfl, show (1 : Int32) = nI 1 from rfl, show (2 : Int32) = nI 2 from rfl, show (3 : Int32) = nI 3 from rfl, show (50 : Int32) = nI 50 from rfl, pk_mul, nI_add]) (by rw [show mLen 14 = 40 from rfl]; omega) rfl dX6_goes_61 ?_
      refine lv_aload_n hx hb dX6_goes_62 rfl (lv_at hl 0 rfl) ?_
      refine m_arr (f := 14) (by unfold mArr; decide) hx hb hts hi6 hown hA hH (hts (.fieldLink RX6 47 "ParoleCardsModel" "account" "[I") (by decide +kernel)) rfl dX6_goes_63 ?_
      refine lv_iconst (v := 4) hx hb dX6_goes_66 (by decide) ?_
      refine lv_iload_n hx hb dX6_goes_67 rfl (lv_at hl 1 rfl) ?_
      refine lv_imul hx hb dX6_goes_68 ?_
      refine lv_iconst (v := 3) hx hb dX6_goes_69 (by decide) ?_
      refine lv_iadd hx hb dX6_goes_70 ?_
      refine m_iald (f := 14) (v := (B 14 (4 * i + 3))) (by unfold mArr; decide) rfl hx hb hA hH (4 * i + 3) (by simp only [show (4 : Int32) = nI 4 from rfl, show (0 : Int32) = nI 0 from rfl, show (1 : Int32) = nI 1 from rfl, show (2 : Int32) = nI 2 from rfl, show (3 : Int32) = nI 3 from rfl, show (50 : Int32) = nI 50 from rfl, pk_mul, nI_add]) (by rw [show mLen 14 = 40 from rfl]; omega) rfl dX6_goes_71 ?_
      refine lv_iadd hx hb dX6_goes_72 ?_
      refine m_iast (f := 13) (by unfold mArr; decide) rfl hx hb hA hH hS i rfl (by rw [show mLen 13 = 10 from rfl]; omega) dX6_goes_73 (fun H locs hH hS => ?_)
      refine lv_aload_n hx hb dX6_goes_74 rfl (lv_at hl 0 rfl) ?_
      refine m_arr (f := 14) (by unfold mArr; decide) hx hb hts hi6 hown hA hH (hts (.fieldLink RX6 47 "ParoleCardsModel" "account" "[I") (by decide +kernel)) rfl dX6_goes_75 ?_
      refine lv_iconst (v := 4) hx hb dX6_goes_78 (by decide) ?_
      refine lv_iload_n hx hb dX6_goes_79 rfl (lv_at hl 1 rfl) ?_
      refine lv_imul hx hb dX6_goes_80 ?_
      refine lv_iconst (v := 2) hx hb dX6_goes_81 (by decide) ?_
      refine lv_iadd hx hb dX6_goes_82 ?_
      refine lv_iconst (v := 0) hx hb dX6_goes_83 (by decide) ?_
      refine m_iast (f := 14) (by unfold mArr; decide) rfl hx hb hA hH hS (4 * i + 2) (by simp only [show (4 : Int32) = nI 4 from rfl, show (0 : Int32) = nI 0 from rfl, show (1 : Int32) = nI 1 from rfl, show (2 : Int32) = nI 2 from rfl, show (3 : Int32) = nI 3 from rfl, show (50 : Int32) = nI 50 from rfl, pk_mul, nI_add]) (by rw [show mLen 14 = 40 from rfl]; omega) dX6_goes_84 (fun H locs hH hS => ?_)
      refine lv_aload_n hx hb dX6_goes_85 rfl (lv_at hl 0 rfl) ?_
      refine m_arr (f := 14) (by unfold mArr; decide) hx hb hts hi6 hown hA hH (hts (.fieldLink RX6 47 "ParoleCardsModel" "account" "[I") (by decide +kernel)) rfl dX6_goes_86 ?_
      refine lv_iconst (v := 4) hx hb dX6_goes_89 (by decide) ?_
      refine lv_iload_n hx hb dX6_goes_90 rfl (lv_at hl 1 rfl) ?_
      refine lv_imul hx hb dX6_goes_91 ?_
      refine lv_iconst (v := 3) hx hb dX6_goes_92 (by decide) ?_
      refine lv_iadd hx hb dX6_goes_93 ?_
      refine lv_iconst (v := 0) hx hb dX6_goes_94 (by decide) ?_
      refine m_iast (f := 14) (by unfold mArr; decide) rfl hx hb hA hH hS (4 * i + 3) (by simp only [show (4 : Int32) = nI 4 from rfl, show (0 : Int32) = nI 0 from rfl, show (1 : Int32) = nI 1 from rfl, show (2 : Int32) = nI 2 from rfl, show (3 : Int32) = nI 3 from rfl, show (50 : Int32) = nI 50 from rfl, pk_mul, nI_add]) (by rw [show mLen 14 = 40 from rfl]; omega) dX6_goes_95 (fun H locs hH hS => ?_)
      refine lv_iconst (v := 1) hx hb dX6_goes_96 (by decide) ?_
      exact z_iret hx hb hr hlocks hH hS ⟨by simp [sGoN, c_1, c_3, Int32.not_lt.mpr c_3], by simp [sGo, c_1, c_3, Int32.not_lt.mpr c_3]⟩ (by decide) (by decide) dX6_goes_97
    · refine lv_iconst (v := 0) hx hb dX6_goes_21 (by decide) ?_
      exact z_iret hx hb hr hlocks hH hS ⟨by simp [sGoN, c_1, c_3, Int32.not_le.mp c_3], by simp [sGo, c_1, c_3, Int32.not_le.mp c_3]⟩ (by decide) (by decide) dX6_goes_22
end
section
set_option maxHeartbeats 4000000 in
set_option maxRecDepth 100000 in
theorem c6_release (l : Launch) (D : va_G) (cy : Nat → ClassId) (base : Nat) (w0 : zW) (y : Nat) (r : Nat → Nat) (B : Nat → Nat → Int32) (its : Int32) (hinv : mInv B) : Met l yX6_release wsX6_release ({ frames := 2, cells := 0, slots := 0, locals := 46 }) (zPc D cy base (mH D cy base w0 y r) [.ref y, .int its] B) (zQi base (mH D cy base w0 y r) (fun (r0 : Int32) (u0 : Nat → Nat → Int32) => ((cd_P B its) = 0 ∧ r0 = (an_release (z2 B 27 0 0) its) ∧ u0 = ((z2 B 27 0 0))) ∨ (¬ (cd_P B its) = 0 ∧ u0 = (z2 B 27 0 (cd_P B its))))) 0 0 (fun q => base ≤ q) := by
  refine Met.ofW (cc := cX6_release) (maxL := 2) (ret := (some .int)) (by decide) rfl ?_
  intro p e s m args below meth c s₁ B9 hml hv
  obtain ⟨rfl, hA, hH⟩ := hv
  have hx := B9.exec
  have hb := B9.bytes
  have hr := B9.returns
  have hts := atoms_spec (ws := wsX6_release) B9.pre
  have hown : s.vm.findClass RX6 = some m.cls := findClass_of_methodNamed B9.named
  have hlocks := B9.notSynchronized
  have hS : va_S (fun q : Nat => base ≤ q) s.heap s.heap [] := va_S.rf
  have hl := lv_entry ([.ref y, .int its]) (n := 2) (Nat.le_of_ble_eq_true rfl)
  rw [lg_entry_eq]
  generalize (lg_sl ([.ref y, .int its]) ++ List.replicate (2 - (lg_sl ([.ref y, .int its])).length) Slot.unset).toArray = ls at hl ⊢
  have hl : lv_has ls 2 [(0, .ref y), (1, .int its)] := hl
  rcases vP_split hinv its with ⟨i, rfl, hi, hi10, hvP, hix⟩ | hvP
  · obtain ⟨h10, h50⟩ := mInv_oc50 hinv hi
    refine lv_aload_n hx hb dX6_release_0 rfl (lv_at hl 0 rfl) ?_
    refine lv_aload_n hx hb dX6_release_1 rfl (lv_at hl 0 rfl) ?_
    refine lv_iload_n hx hb dX6_release_2 rfl (lv_at hl 1 rfl) ?_
    refine z_calli (va_runV (As := [.int (nI i)]) (rest := [.ref y]) ⟨hx, hb, hml, hown, hts⟩ (c6_isPerson_t l D cy base w0 y r B i hvP) (cwV 1 hts gX6_release_X6_isPerson rfl rfl rfl (by decide +kernel) ⟨Nat.le_of_ble_eq_true rfl, Nat.le_of_ble_eq_true rfl⟩) (z_preV hA hS hH (m_recv hA hH)) rfl rfl hl.1 rfl (lv_room (Nat.le_of_ble_eq_true rfl)) dX6_release_3 ⟨Nat.le_of_ble_eq_true rfl, Nat.le_of_ble_eq_true rfl⟩) hS (fun r_k_1 u_k_1 H locs hw_k_1 hH hz_k_1 hS => ?_)
    rcases hw_k_1 with ⟨rfl, hu_k_1⟩
    rw [hu_k_1] at hH
    refine lv_if_eq (tgt := 13) hx hb dX6_release_6 (by decide) (fun c_2 => absurd c_2 (by decide)) (fun _ => ?_)
    refine lv_iconst (v := 0) hx hb dX6_release_9 (by decide) ?_
    refine lv_goto (tgt := 14) hx hb dX6_release_10 (by decide) ?_
    refine z_calli (va_runV (As := [.int 0]) (rest := []) ⟨hx, hb, hml, hown, hts⟩ (c6_fails0 l D cy base w0 y r B  ) (cwV 1 hts gX6_release_X6_fails rfl rfl rfl (by decide +kernel) ⟨Nat.le_of_ble_eq_true rfl, Nat.le_of_ble_eq_true rfl⟩) (z_preV hA hS hH (m_recv hA hH)) rfl rfl hl.1 rfl (lv_room (Nat.le_of_ble_eq_true rfl)) dX6_release_14 ⟨Nat.le_of_ble_eq_true rfl, Nat.le_of_ble_eq_true rfl⟩) hS (fun r_k_3 u_k_3 H locs hw_k_3 hH hz_k_3 hS => ?_)
    rcases hw_k_3 with ⟨rfl, hu_k_3⟩
    rw [hu_k_3] at hH
    refine lv_if_eq (tgt := 24) hx hb dX6_release_17 (by decide) (fun _ => ?_) (fun c_4 => absurd c_4 (by decide))
    refine lv_aload_n hx hb dX6_release_24 rfl (lv_at hl 0 rfl) ?_
    refine lv_iload_n hx hb dX6_release_25 rfl (lv_at hl 1 rfl) ?_
    refine z_calli (va_runV (As := [.int (nI i)]) (rest := []) ⟨hx, hb, hml, hown, hts⟩ (c6_releaseOf l D cy base w0 y r (z2 B 27 0 0) i (by omega) h10 h50) (cwV 1 hts gX6_release_X6_releaseOf rfl rfl rfl (by decide +kernel) ⟨Nat.le_of_ble_eq_true rfl, Nat.le_of_ble_eq_true rfl⟩) (z_preV hA hS hH (m_recv hA hH)) rfl rfl hl.1 rfl (lv_room (Nat.le_of_ble_eq_true rfl)) dX6_release_26 ⟨Nat.le_of_ble_eq_true rfl, Nat.le_of_ble_eq_true rfl⟩) hS (fun r_k_5 u_k_5 H locs hw_k_5 hH hz_k_5 hS => ?_)
    rcases hw_k_5 with ⟨rfl, hu_k_5⟩
    rw [hu_k_5] at hH
    exact z_iret hx hb hr hlocks hH hS (by
      have hc : (cd_P B (nI i)) = 0 := by first | (simp [cd_P, hvP, hix]; done) | (simp_all [cd_P]; done)
      refine Or.inl ⟨hc, ?_, ?_⟩ <;> (simp [an_release, hvP, hix, z27_0, z27_1, z27_2, z27_3, z27_4, z27_5, z27_6, z27_7, z27_8, z27_9, z27_10, z27_11, z27_12, z27_13, z27_14, z27_15, z27_16, z27_17, z27_18, z27_19, z27_20, z27_21, z27_22, z27_23, z27_24, z27_25, z27_26, z27_oc, z27_ox, z27_kx, z27_nP, z27_nO]; done)) (by decide) (by decide) dX6_release_29
  · refine lv_aload_n hx hb dX6_release_0 rfl (lv_at hl 0 rfl) ?_
    refine lv_aload_n hx hb dX6_release_1 rfl (lv_at hl 0 rfl) ?_
    refine lv_iload_n hx hb dX6_release_2 rfl (lv_at hl 1 rfl) ?_
    refine z_calli (va_runV (As := [.int its]) (rest := [.ref y]) ⟨hx, hb, hml, hown, hts⟩ (c6_isPerson_f l D cy base w0 y r B its hvP) (cwV 1 hts gX6_release_X6_isPerson rfl rfl rfl (by decide +kernel) ⟨Nat.le_of_ble_eq_true rfl, Nat.le_of_ble_eq_true rfl⟩) (z_preV hA hS hH (m_recv hA hH)) rfl rfl hl.1 rfl (lv_room (Nat.le_of_ble_eq_true rfl)) dX6_release_3 ⟨Nat.le_of_ble_eq_true rfl, Nat.le_of_ble_eq_true rfl⟩) hS (fun r_k_6 u_k_6 H locs hw_k_6 hH hz_k_6 hS => ?_)
    rcases hw_k_6 with ⟨rfl, hu_k_6⟩
    rw [hu_k_6] at hH
    refine lv_if_eq (tgt := 13) hx hb dX6_release_6 (by decide) (fun _ => ?_) (fun c_7 => absurd c_7 (by decide))
    refine lv_iconst (v := 1) hx hb dX6_release_13 (by decide) ?_
    refine z_calli (va_runV (As := [.int 1]) (rest := []) ⟨hx, hb, hml, hown, hts⟩ (c6_fails1 l D cy base w0 y r B  ) (cwV 1 hts gX6_release_X6_fails rfl rfl rfl (by decide +kernel) ⟨Nat.le_of_ble_eq_true rfl, Nat.le_of_ble_eq_true rfl⟩) (z_preV hA hS hH (m_recv hA hH)) rfl rfl hl.1 rfl (lv_room (Nat.le_of_ble_eq_true rfl)) dX6_release_14 ⟨Nat.le_of_ble_eq_true rfl, Nat.le_of_ble_eq_true rfl⟩) hS (fun r_k_8 u_k_8 H locs hw_k_8 hH hz_k_8 hS => ?_)
    rcases hw_k_8 with ⟨rfl, hu_k_8⟩
    rw [hu_k_8] at hH
    refine lv_if_eq (tgt := 24) hx hb dX6_release_17 (by decide) (fun c_9 => absurd c_9 (by decide)) (fun _ => ?_)
    refine lv_iconst (v := 0) hx hb dX6_release_20 (by decide) ?_
    refine lv_goto (tgt := 29) hx hb dX6_release_21 (by decide) ?_
    exact z_iret hx hb hr hlocks hH hS (by
      have hc : (cd_P B its) = 1 := by first | (simp [cd_P, hvP]; done) | (simp_all [cd_P]; done)
      exact Or.inr ⟨by rw [hc]; decide, by rw [hc]⟩) (by decide) (by decide) dX6_release_29
end
