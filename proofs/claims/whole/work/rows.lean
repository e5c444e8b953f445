section
-- ===== PART A: goes FIRST, ahead of the names: the tables' words, and 'selects' of the private methods out of them =====
/-- a private method of a class that the tables say can be made, by its rows of tables_1 -/
def lw_okq (q : MethodName × Nat) : Prop := (q.1.cls ≠ "java/lang/invoke/MethodHandle" ∧ q.1.cls ≠ "java/lang/invoke/VarHandle") ∧ Cond.instantiable q.1.cls q.2 ∈ tables_1 ∧ Cond.privateMethod q.1 ∈ tables_1 ∧ Cond.instanceMethod q.1 ∈ tables_1
theorem lw_p0 : lw_okq (⟨"java/lang/Throwable", "fillInStackTrace", "(I)Ljava/lang/Throwable;"⟩, 6) := ⟨⟨by decide +kernel, by decide +kernel⟩, List.mem_of_getElem? (i := 114) (by decide +kernel), List.mem_of_getElem? (i := 112) (by decide +kernel), List.mem_of_getElem? (i := 113) (by decide +kernel)⟩
theorem lw_p1 : lw_okq (⟨"ParoleCards", "findPerson", "(I)LParoleCards$Person;"⟩, 6) := ⟨⟨by decide +kernel, by decide +kernel⟩, List.mem_of_getElem? (i := 16) (by decide +kernel), List.mem_of_getElem? (i := 246) (by decide +kernel), List.mem_of_getElem? (i := 247) (by decide +kernel)⟩
theorem lw_p2 : lw_okq (⟨"ParoleCards", "findTools", "(I)LParoleCards$ToolKind;"⟩, 6) := ⟨⟨by decide +kernel, by decide +kernel⟩, List.mem_of_getElem? (i := 16) (by decide +kernel), List.mem_of_getElem? (i := 389) (by decide +kernel), List.mem_of_getElem? (i := 390) (by decide +kernel)⟩
theorem lw_p3 : lw_okq (⟨"ParoleCards", "findOrder", "(I)LParoleCards$Order;"⟩, 6) := ⟨⟨by decide +kernel, by decide +kernel⟩, List.mem_of_getElem? (i := 16) (by decide +kernel), List.mem_of_getElem? (i := 448) (by decide +kernel), List.mem_of_getElem? (i := 449) (by decide +kernel)⟩
theorem lw_p4 : lw_okq (⟨"ParoleCards", "workInTheShop", "()V"⟩, 6) := ⟨⟨by decide +kernel, by decide +kernel⟩, List.mem_of_getElem? (i := 16) (by decide +kernel), List.mem_of_getElem? (i := 557) (by decide +kernel), List.mem_of_getElem? (i := 558) (by decide +kernel)⟩
theorem lw_p5 : lw_okq (⟨"ParoleCards", "letGoThoseDue", "()I"⟩, 6) := ⟨⟨by decide +kernel, by decide +kernel⟩, List.mem_of_getElem? (i := 16) (by decide +kernel), List.mem_of_getElem? (i := 574) (by decide +kernel), List.mem_of_getElem? (i := 575) (by decide +kernel)⟩
theorem lw_p6 : lw_okq (⟨"ParoleCardsModel", "fails", "(I)Z"⟩, 28) := ⟨⟨by decide +kernel, by decide +kernel⟩, List.mem_of_getElem? (i := 591) (by decide +kernel), List.mem_of_getElem? (i := 694) (by decide +kernel), List.mem_of_getElem? (i := 695) (by decide +kernel)⟩
theorem lw_p7 : lw_okq (⟨"ParoleCardsModel", "isPerson", "(I)Z"⟩, 28) := ⟨⟨by decide +kernel, by decide +kernel⟩, List.mem_of_getElem? (i := 591) (by decide +kernel), List.mem_of_getElem? (i := 702) (by decide +kernel), List.mem_of_getElem? (i := 703) (by decide +kernel)⟩
theorem lw_p8 : lw_okq (⟨"ParoleCardsModel", "raises", "(I)V"⟩, 28) := ⟨⟨by decide +kernel, by decide +kernel⟩, List.mem_of_getElem? (i := 591) (by decide +kernel), List.mem_of_getElem? (i := 706) (by decide +kernel), List.mem_of_getElem? (i := 707) (by decide +kernel)⟩
theorem lw_p9 : lw_okq (⟨"ParoleCardsModel", "releaseOf", "(I)I"⟩, 28) := ⟨⟨by decide +kernel, by decide +kernel⟩, List.mem_of_getElem? (i := 591) (by decide +kernel), List.mem_of_getElem? (i := 710) (by decide +kernel), List.mem_of_getElem? (i := 711) (by decide +kernel)⟩
theorem lw_p10 : lw_okq (⟨"ParoleCardsModel", "gains", "(I)I"⟩, 28) := ⟨⟨by decide +kernel, by decide +kernel⟩, List.mem_of_getElem? (i := 591) (by decide +kernel), List.mem_of_getElem? (i := 714) (by decide +kernel), List.mem_of_getElem? (i := 715) (by decide +kernel)⟩
theorem lw_p11 : lw_okq (⟨"ParoleCardsModel", "loses", "(I)I"⟩, 28) := ⟨⟨by decide +kernel, by decide +kernel⟩, List.mem_of_getElem? (i := 591) (by decide +kernel), List.mem_of_getElem? (i := 718) (by decide +kernel), List.mem_of_getElem? (i := 719) (by decide +kernel)⟩
theorem lw_p12 : lw_okq (⟨"ParoleCardsModel", "of", "([II)I"⟩, 28) := ⟨⟨by decide +kernel, by decide +kernel⟩, List.mem_of_getElem? (i := 591) (by decide +kernel), List.mem_of_getElem? (i := 742) (by decide +kernel), List.mem_of_getElem? (i := 743) (by decide +kernel)⟩
theorem lw_p13 : lw_okq (⟨"ParoleCardsModel", "out", "(I)I"⟩, 28) := ⟨⟨by decide +kernel, by decide +kernel⟩, List.mem_of_getElem? (i := 591) (by decide +kernel), List.mem_of_getElem? (i := 757) (by decide +kernel), List.mem_of_getElem? (i := 758) (by decide +kernel)⟩
theorem lw_p14 : lw_okq (⟨"ParoleCardsModel", "isOrder", "(I)Z"⟩, 28) := ⟨⟨by decide +kernel, by decide +kernel⟩, List.mem_of_getElem? (i := 591) (by decide +kernel), List.mem_of_getElem? (i := 773) (by decide +kernel), List.mem_of_getElem? (i := 774) (by decide +kernel)⟩
theorem lw_p15 : lw_okq (⟨"ParoleCardsModel", "rest", "(I)I"⟩, 28) := ⟨⟨by decide +kernel, by decide +kernel⟩, List.mem_of_getElem? (i := 591) (by decide +kernel), List.mem_of_getElem? (i := 797) (by decide +kernel), List.mem_of_getElem? (i := 798) (by decide +kernel)⟩
def lw_privs_1 : List (MethodName × Nat) := [(⟨"java/lang/Throwable", "fillInStackTrace", "(I)Ljava/lang/Throwable;"⟩, 6), (⟨"ParoleCards", "findPerson", "(I)LParoleCards$Person;"⟩, 6), (⟨"ParoleCards", "findTools", "(I)LParoleCards$ToolKind;"⟩, 6), (⟨"ParoleCards", "findOrder", "(I)LParoleCards$Order;"⟩, 6), (⟨"ParoleCards", "workInTheShop", "()V"⟩, 6), (⟨"ParoleCards", "letGoThoseDue", "()I"⟩, 6), (⟨"ParoleCardsModel", "fails", "(I)Z"⟩, 28), (⟨"ParoleCardsModel", "isPerson", "(I)Z"⟩, 28), (⟨"ParoleCardsModel", "raises", "(I)V"⟩, 28), (⟨"ParoleCardsModel", "releaseOf", "(I)I"⟩, 28), (⟨"ParoleCardsModel", "gains", "(I)I"⟩, 28), (⟨"ParoleCardsModel", "loses", "(I)I"⟩, 28), (⟨"ParoleCardsModel", "of", "([II)I"⟩, 28), (⟨"ParoleCardsModel", "out", "(I)I"⟩, 28), (⟨"ParoleCardsModel", "isOrder", "(I)Z"⟩, 28), (⟨"ParoleCardsModel", "rest", "(I)I"⟩, 28)]
theorem lw_r1 : ∀ q ∈ lw_privs_1, lw_okq q := List.forall_mem_cons.mpr ⟨lw_p0, List.forall_mem_cons.mpr ⟨lw_p1, List.forall_mem_cons.mpr ⟨lw_p2, List.forall_mem_cons.mpr ⟨lw_p3, List.forall_mem_cons.mpr ⟨lw_p4, List.forall_mem_cons.mpr ⟨lw_p5, List.forall_mem_cons.mpr ⟨lw_p6, List.forall_mem_cons.mpr ⟨lw_p7, List.forall_mem_cons.mpr ⟨lw_p8, List.forall_mem_cons.mpr ⟨lw_p9, List.forall_mem_cons.mpr ⟨lw_p10, List.forall_mem_cons.mpr ⟨lw_p11, List.forall_mem_cons.mpr ⟨lw_p12, List.forall_mem_cons.mpr ⟨lw_p13, List.forall_mem_cons.mpr ⟨lw_p14, List.forall_mem_cons.mpr ⟨lw_p15, fun _ h => absurd h List.not_mem_nil⟩⟩⟩⟩⟩⟩⟩⟩⟩⟩⟩⟩⟩⟩⟩⟩
theorem lw_p16 : lw_okq (⟨"ParoleCardsModel", "works", "(I)V"⟩, 28) := ⟨⟨by decide +kernel, by decide +kernel⟩, List.mem_of_getElem? (i := 591) (by decide +kernel), List.mem_of_getElem? (i := 813) (by decide +kernel), List.mem_of_getElem? (i := 814) (by decide +kernel)⟩
theorem lw_p17 : lw_okq (⟨"ParoleCardsModel", "goes", "(I)I"⟩, 28) := ⟨⟨by decide +kernel, by decide +kernel⟩, List.mem_of_getElem? (i := 591) (by decide +kernel), List.mem_of_getElem? (i := 817) (by decide +kernel), List.mem_of_getElem? (i := 818) (by decide +kernel)⟩
def lw_privs_2 : List (MethodName × Nat) := [(⟨"ParoleCardsModel", "works", "(I)V"⟩, 28), (⟨"ParoleCardsModel", "goes", "(I)I"⟩, 28)]
theorem lw_r2 : ∀ q ∈ lw_privs_2, lw_okq q := List.forall_mem_cons.mpr ⟨lw_p16, List.forall_mem_cons.mpr ⟨lw_p17, fun _ h => absurd h List.not_mem_nil⟩⟩
def lw_privs : List (MethodName × Nat) := lw_privs_1 ++ (lw_privs_2)
def lw_tbl : List Cond := k2_sels lw_privs ++ tables_1
theorem lw_privs_ok : ∀ q ∈ lw_privs, lw_okq q := by
  show ∀ q ∈ lw_privs_1 ++ (lw_privs_2), lw_okq q
  exact List.forall_mem_append.mpr ⟨lw_r1, lw_r2⟩
-- ===== end of PART A; then your names; then what follows =====
end
section
/-! ===== BEGIN words of one list among another's, by their places ===== -/
theorem goodIn_r {big : List Cond} (ws : List Cond) (ps : List Nat) (hp : ws = ps.filterMap (fun i => big[i]?)) (h : ws.all goodWord = true) : GoodIn big ws := by
  intro w hw
  have h1 := List.all_eq_true.mp h w hw
  rw [hp] at hw
  obtain ⟨i, -, hi⟩ := List.mem_filterMap.mp hw
  have hm : w ∈ big := by first | exact List.mem_of_getElem? hi | exact List.getElem?_mem hi
  exact ⟨hm, good_of_word h1⟩
theorem goodIn_app {big a b : List Cond} (ha : GoodIn big a) (hb : GoodIn big b) : GoodIn big (a ++ b) := fun w h => (List.mem_append.mp h).elim (ha w) (hb w)
theorem goodIn_ca {big a b : List Cond} {c : Cond} (ha : GoodIn big (c :: a)) (hb : GoodIn big b) : GoodIn big (c :: (a ++ b)) := fun w h => (List.mem_cons.mp h).elim (fun e => ha w (List.mem_cons.mpr (Or.inl e))) (fun h => (List.mem_append.mp h).elim (fun h => ha w (List.mem_cons.mpr (Or.inr h))) (hb w))
theorem goodIn_sub {big ws : List Cond} (hm : ∀ w ∈ ws, w ∈ big) (h : ws.all goodWord = true) : GoodIn big ws := fun w hw => ⟨hm w hw, good_of_word (List.all_eq_true.mp h w hw)⟩
/-! ===== END ===== -/

/-! ===== BEGIN exceptions that leave a method, and their catching by the caller (launches without stack traces) ===== -/
section VXA
/-! The laws vx_back, vx_callV, vx_callS, vx_callSW, vx_throw0, vx_throwS follow proofs of the library, with one case more: JvmDerived/Free/Laws.lean (Back.of_free), Shelf42/LK1.lean (callV, callS), Shelf/KitTraced.lean (throwNew0V, throwNewS). -/
/-- where a method has thrown q: the class by its name, the cell, what was written, the world -/
def vx_T (XC : String → State → State → Prop) (st : State) (q : Addr) (t : State) (mc ms : Nat) (free : Addr → Prop) : Prop :=
  ∃ (E : String) (ce : Cell) (L : List Loc), XC E st t ∧ t.heap[q]? = some ce ∧ ce.vm = .none ∧ st.vm.findClass E = some ce.cls ∧ st.WarmedH t.vm ∧ st.sameButNew ({ t with vm := st.vm } : State) L mc ms ∧ ∀ z ∈ L, free z.base
def vx_Q (Qc : Array Value → State → Outcome → State → Prop) (XC : String → State → State → Prop) (mc ms : Nat) (free : Addr → Prop) : Array Value → State → Outcome → State → Prop := fun a st o t =>
  (Qc a st o t ∧ ∃ L, FrameEnd st o t L mc ms ∧ ∀ q ∈ L, free q.base) ∨ ∃ q, o = .threw q ∧ vx_T XC st q t mc ms free
/-- a callee that returns or throws -/
def vx_Met (l : Launch) (y : MethodName) (ws : List Cond) (rm : Room) (Pc : Array Value → State → Prop) (Qc : Array Value → State → Outcome → State → Prop) (XC : String → State → State → Prop) (mc ms : Nat) (free : Addr → Prop) : Prop :=
  MetFree l y (headSpec ws rm) Pc (fun _ _ _ _ _ => True) (vx_Q Qc XC mc ms free)
def vx_Post (XC : String → State → State → Prop) (mc ms : Nat) (free : Addr → Prop) : Pt → Array Value → Addr → Pt → Prop := fun A a q B =>
  ∃ (g : JFrame) (mk : MethodId) (t : State) (L : List Loc) (E : String) (ce : Cell), B.U.heap = t.heap ∧ B.U.vm = t.vm ∧ XC E (A.U.calling g mk a) t ∧ t.heap[q]? = some ce ∧ ce.vm = .none ∧ A.U.vm.findClass E = some ce.cls ∧ B.locs = A.locs ++ L ∧ (∀ z ∈ L, free z.base) ∧ B.cells = A.cells + mc ∧ B.slots = A.slots + ms
def vx_Back (l : Launch) (R : Room) (p : Program) (e : Env) (below : List Frame) (s : State) (sargs : Array Value) (y : MethodName) (len W9 : Nat)
    (Pre : Pt → Array Value → Prop) (Post : Pt → Array Value → Option Value → Pt → Prop) (PostX : Pt → Array Value → Addr → Pt → Prop) : Prop :=
  ∀ (m : MethodId) (meth : Method) (c : Code) (A : Pt) (g : JFrame) (ig : Instr) (mk : MethodId) (a : Array Value),
    Stand p l e R s m sargs below meth c A.U A.locs A.cells A.slots → g.method = m → g.locals.size = c.maxLocals → decode c.code g.pc = .ok (ig, len) →
    2 * g.monitorRoom + (g.stack.map fun v => v.category).sum ≤ W9 → A.U.methodNamed? y = some mk → Pre A a →
    (∃ (v : Option Value) (B : Pt), Stand p l e R s m sargs below meth c B.U B.locs B.cells B.slots ∧ Post A a v B ∧
      Steps p.tables e below (doInvoke e (A.U.setTop g) [] mk a).1 (B.U.setTop { g with pc := g.pc + len, stack := v.toList ++ g.stack })) ∨
    (∃ (q : Addr) (B : Pt), Stand p l e R s m sargs below meth c B.U B.locs B.cells B.slots ∧ PostX A a q B ∧
      Steps p.tables e below (doInvoke e (A.U.setTop g) [] mk a).1 ((B.U.setTop g).pushFrame (.throwing q)))
section Payer
variable {l : Launch} {R : Room} {p : Program} {e : Env} {below : List Frame} {s : State} {sargs : Array Value} {y : MethodName} {len W9 : Nat}
theorem vx_back {ws : List Cond} {rm : Room} {Pc : Array Value → State → Prop} {Qc : Array Value → State → Outcome → State → Prop} {XC : String → State → State → Prop} {mc ms : Nat} {free : Addr → Prop} {bytes : ByteArray} {maxL : Nat} {ret : Option FieldType}
    (hM : vx_Met l y ws rm Pc Qc XC mc ms free) (hblind : FrameBlind Pc) (hrc : rm.cells = mc) (hrs : rm.slots = ms)
    (hframes : rm.frames + 1 ≤ R.frames) (hlocals : W9 + (maxL + 11) + rm.locals ≤ R.locals)
    (hws : ∀ w ∈ ws, ∀ a' U, s.WarmedH U.vm → w.before a' U = true) (hcode : Cond.code y bytes maxL ret ∈ ws) (hinit : ∀ a' U, s.WarmedH U.vm → (Cond.initialized y.cls).before a' U = true) :
    vx_Back l R p e below s sargs y len W9 (PreOf R mc ms Pc) (PostOf Qc mc ms free) (vx_Post XC mc ms free) := by
  intro m meth c A g ig mk a X hg hsize hdg hW hn hp
  have h1 : (headSpec ws rm).pre.before a A.U = true := atoms_intro fun w hw => hws w hw _ _ X.warmed
  have h2 : (Cond.code y bytes maxL ret).before a A.U = true := hws _ hcode _ _ X.warmed
  have h3 : (Cond.initialized y.cls).before a A.U = true := hinit _ _ X.warmed
  have h4 : A.cells + (headSpec ws rm).room.cells ≤ R.cells := by rw [show (headSpec ws rm).room.cells = mc from hrc]; exact hp.1
  have h5 : A.slots + (headSpec ws rm).room.slots ≤ R.slots := by rw [show (headSpec ws rm).room.slots = ms from hrs]; exact hp.2.1
  have hPc : Pc a (A.U.calling g mk a) := hblind _ _ _ _ hp.2.2
  obtain ⟨U, Ls, c0, s0⟩ := A
  dsimp only [Pt.U, Pt.locs, Pt.cells, Pt.slots] at h1 h2 h3 h4 h5 X hn hPc ⊢
  obtain ⟨methY, cY, hmY, hcY, -, hlY, -, -, -, -⟩ := Cond.code_spec hn h2
  obtain ⟨kY, hkY, -⟩ := className_of_methodNamed hn
  have hinitY : kY.init = .initialized := Cond.initialized_spec (findClass_of_methodNamed hn) hkY h3
  have h : At U g.method c below := by rw [hg]; exact X.here
  have hlocals9 : W9 + (maxL + 11) + (headSpec ws rm).room.locals ≤ R.locals := hlocals
  have happ : (headSpec ws rm).appliesLoose y e.platform (U.calling g mk a) = true :=
    Spec.appliesLoose_calling (g := g) h hdg hn hkY hinitY
      (X.room_calling (g := g) (R' := (headSpec ws rm).room) hsize hmY hcY hframes (by rw [hlY]; omega) h4 h5) h1
  obtain ⟨mid, hmid⟩ := h.above
  have hfr : (U.setTop g).frames = (.java g :: mid) ++ below := by rw [State.frames_setTop' g h.top, hmid]; rfl
  obtain ⟨o, s₂, hsteps, -, hend, hq⟩ := Steps.callFree hM p X.admits X.cas X.clock (acts := []) hfr happ hPc trivial
  have hq' : vx_Q Qc XC mc ms free a (U.calling g mk a) o s₂ := hq
  rw [State.frames_setTop' g h.top] at hend
  obtain ⟨g₀, hg0⟩ := Option.isSome_iff_exists.mp h.top
  obtain ⟨r, hr⟩ := State.topJava?_eq_some.mp hg0
  have hr' : (({ U with heap := s₂.heap, slotsUsed := s₂.slotsUsed } : State).setVm s₂.vm).frames = .java g₀ :: r := hr
  rcases hq' with ⟨hqc, L, hfe, hL⟩ | ⟨q, rfl, E, ce, L, hx, hce, hcv, hcl, hW₂, hsm, hL⟩
  · obtain ⟨⟨v, rfl⟩, hW₂, e2, q2, q3, q4, q5, q6⟩ := id hfe
    have e3 : s₂ = ({ (U.calling g mk a).setFrames s₂.frames with heap := s₂.heap, slotsUsed := s₂.slotsUsed } : State).setVm s₂.vm := by
      have : s₂ = ({ s₂ with vm := (U.calling g mk a).vm } : State).setVm s₂.vm := rfl
      rw [e2] at this
      exact this
    obtain ⟨c₂, i₂, len₂, hc₂, hd₂, hf₂⟩ := hend
    have hW' : U.WarmedH s₂.vm := hW₂
    have hcc : c₂ = c := by
      have h1 : s₂.code? g.method = U.code? g.method := by
        rw [State.code?_eq, State.code?_eq, hW'.alike.method?]
      exact Option.some.inj (hc₂.symm.trans (h1.trans h.code))
    subst hcc
    have hlen : len₂ = len := by rw [hdg] at hd₂; cases hd₂; rfl
    subst hlen
    have hs₂ : s₂ = (({ U with heap := s₂.heap, slotsUsed := s₂.slotsUsed } : State).setVm s₂.vm).setTop { g with pc := g.pc + len₂, stack := v.toList ++ g.stack } := by
      refine e3.trans ?_
      rw [hf₂, State.calling_eq h.top, State.setFrames_setFrames, State.setTop_of_frames _ hr', hr]
      rfl
    have hsame : U.sameButNew ({ U with heap := s₂.heap, slotsUsed := s₂.slotsUsed } : State) L mc ms := by
      refine ⟨?_, q2, q3, q4, q5, q6⟩
      obtain ⟨t, ht, -⟩ := State.frames_cons hr
      show ({ U with heap := s₂.heap, slotsUsed := s₂.slotsUsed } : State) = { U.setFrames U.frames with heap := s₂.heap, slotsUsed := s₂.slotsUsed }
      rw [State.setFrames_self ht]
    subst hg
    refine Or.inl ⟨v, ⟨(({ U with heap := s₂.heap, slotsUsed := s₂.slotsUsed } : State).setVm s₂.vm), Ls ++ L, c0 + mc, s0 + ms⟩,
      ⟨X.admits, X.cas, X.clock, X.frames, X.room, X.hears, X.method, X.code, (X.here.setHeapUsed s₂.heap s₂.slotsUsed).setVm hW'.alike, X.tail, State.WarmedH.trans X.warmed hW', X.limits, X.bytes, X.same.trans (hsame.setVm s.vm)⟩,
      ⟨g, mk, s₂, L, rfl, rfl, hqc, rfl, hL, rfl, rfl⟩, ?_⟩
    show Steps p.tables e below _ ((({ U with heap := s₂.heap, slotsUsed := s₂.slotsUsed } : State).setVm s₂.vm).setTop { g with pc := g.pc + len₂, stack := v.toList ++ g.stack })
    rw [← hs₂]
    exact hsteps
  · obtain ⟨e2, q2, q3, q4, q5, q6⟩ := id hsm
    have e3 : s₂ = ({ (U.calling g mk a).setFrames s₂.frames with heap := s₂.heap, slotsUsed := s₂.slotsUsed } : State).setVm s₂.vm := by
      have : s₂ = ({ s₂ with vm := (U.calling g mk a).vm } : State).setVm s₂.vm := rfl
      rw [e2] at this
      exact this
    have hf₂ : s₂.frames = .throwing q :: .java g :: U.frames.tail := hend
    have hW' : U.WarmedH s₂.vm := hW₂
    have hs₂ : s₂ = ((({ U with heap := s₂.heap, slotsUsed := s₂.slotsUsed } : State).setVm s₂.vm).setTop g).pushFrame (.throwing q) := by
      refine e3.trans ?_
      rw [hf₂, State.calling_eq h.top, State.setFrames_setFrames, State.pushFrame, State.frames_setTop _ hr', State.setTop_of_frames _ hr', State.setFrames_setFrames, hr]
      rfl
    have hsame : U.sameButNew ({ U with heap := s₂.heap, slotsUsed := s₂.slotsUsed } : State) L mc ms := by
      refine ⟨?_, q2, q3, q4, q5, q6⟩
      obtain ⟨t, ht, -⟩ := State.frames_cons hr
      show ({ U with heap := s₂.heap, slotsUsed := s₂.slotsUsed } : State) = { U.setFrames U.frames with heap := s₂.heap, slotsUsed := s₂.slotsUsed }
      rw [State.setFrames_self ht]
    subst hg
    refine Or.inr ⟨q, ⟨(({ U with heap := s₂.heap, slotsUsed := s₂.slotsUsed } : State).setVm s₂.vm), Ls ++ L, c0 + mc, s0 + ms⟩,
      ⟨X.admits, X.cas, X.clock, X.frames, X.room, X.hears, X.method, X.code, (X.here.setHeapUsed s₂.heap s₂.slotsUsed).setVm hW'.alike, X.tail, State.WarmedH.trans X.warmed hW', X.limits, X.bytes, X.same.trans (hsame.setVm s.vm)⟩,
      ⟨g, mk, s₂, L, E, ce, rfl, rfl, hx, hce, hcv, hcl, rfl, hL, rfl, rfl⟩, ?_⟩
    show Steps p.tables e below _ (((({ U with heap := s₂.heap, slotsUsed := s₂.slotsUsed } : State).setVm s₂.vm).setTop g).pushFrame (.throwing q))
    rw [← hs₂]
    exact hsteps
end Payer
section Calls
variable {p : Program} {l : Launch} {e : Env} {R : Room} {s : State} {m : MethodId} {args : Array Value} {below : List Frame} {meth : Method} {c : Code} {T : State} {locs : List Loc} {cells slots : Nat}
theorem vx_callV (X : Stand p l e R s m args below meth c T locs cells slots) (hexec : p.tables.exec = Jvm.exec) {own C : String} {index : Nat} {y : MethodName} {bytes : ByteArray} {maxL : Nat} {ret : Option FieldType}
    (hown : s.vm.findClass own = some m.cls) (hlink : (Cond.methodLink own index y).before args s = true) (hinst : (Cond.instanceMethod y).before args s = true) (hsel : (Cond.selects C y y).before args s = true)
    (hcode : (Cond.code y bytes maxL ret).before args s = true) (hy : y.cls ≠ "java/lang/invoke/MethodHandle" ∧ y.cls ≠ "java/lang/invoke/VarHandle")
    {W9 : Nat} {Pre : Pt → Array Value → Prop} {Post : Pt → Array Value → Option Value → Pt → Prop} {PostX : Pt → Array Value → Addr → Pt → Prop} (hK : vx_Back l R p e below s args y 3 W9 Pre Post PostX)
    {b : Addr} {cellB : Cell} (hcell : T.heap[b]? = some cellB) (hobj : cellB.vm.isStatics = false) (hcls : s.vm.findClass C = some cellB.cls)
    {g : JFrame} (hg : g.method = m) (hsize : g.locals.size = c.maxLocals) {argsL rest : List Value} (hlen : ∀ sig, parseMethodDescriptor y.desc = some sig → argsL.length = sig.parameters.length)
    (hstack : g.stack = argsL.reverse ++ .ref b :: rest) (hW : 2 * g.monitorRoom + (rest.map fun v => v.category).sum ≤ W9) (hdg : decode c.code g.pc = .ok (.invokevirtual index, 3))
    (hpre : ∀ vm₁, s.WarmedH vm₁ → Pre ⟨T.setVm vm₁, locs, cells, slots⟩ (Value.ref b :: argsL).toArray) :
    (∃ (v : Option Value) (vm₁ : Vm) (B : Pt), s.WarmedH vm₁ ∧ Stand p l e R s m args below meth c B.U B.locs B.cells B.slots ∧ Post ⟨T.setVm vm₁, locs, cells, slots⟩ (Value.ref b :: argsL).toArray v B ∧
      ∀ target, Steps p.tables e below (B.U.setTop { g with pc := g.pc + 3, stack := v.toList ++ rest }) target → Steps p.tables e below (T.setTop g) target) ∨
    (∃ (q : Addr) (vm₁ : Vm) (B : Pt), s.WarmedH vm₁ ∧ Stand p l e R s m args below meth c B.U B.locs B.cells B.slots ∧ PostX ⟨T.setVm vm₁, locs, cells, slots⟩ (Value.ref b :: argsL).toArray q B ∧
      Steps p.tables e below (T.setTop g) ((B.U.setTop { g with stack := rest }).pushFrame (.throwing q))) := by
  obtain ⟨mk, methM, hnamed, hmethM, hstM, habM⟩ := Cond.instanceMethod_spec hinst
  obtain ⟨methM', cM, hmethM', -, -, -, -, -, -, hsigM⟩ := Cond.code_spec hnamed hcode
  cases hmethM.symm.trans hmethM'
  obtain ⟨c2, r2, m2, q1, q2, q3, q4, kP, hkP, hkPi⟩ := Cond.selects_spec hsel
  cases hcls.symm.trans q1
  cases (State.methodFound?_of_named hnamed hy).symm.trans q2
  cases hnamed.symm.trans q3
  have hselP : selectMethod e.platform s.vm cellB.cls mk = .method mk := by rw [Launch.admits_selectMethod X.admits]; exact q4
  obtain ⟨vm₁, X₁, hstep₁⟩ := X.invokevirtual hexec hown hlink hnamed hmethM hstM hkP hkPi hy (a := b) (cell := cellB) hcell
    (fun z h => by rw [h] at hobj; cases hobj) hselP hmethM habM hkP hkPi (g := g) hg (argsL := argsL) (rest := rest) (hlen _ hsigM) hstack hdg
  rcases hK m meth c ⟨T.setVm vm₁, locs, cells, slots⟩ { g with stack := rest } (.invokevirtual index) mk (Value.ref b :: argsL).toArray X₁ hg hsize hdg hW (X₁.named hnamed) (hpre vm₁ X₁.warmed) with ⟨v, B, X', hpost, hsteps⟩ | ⟨q, B, X', hpost, hsteps⟩
  · exact Or.inl ⟨v, vm₁, B, X₁.warmed, X', hpost, fun target h => hstep₁ _ fun acts => by rw [doInvoke_state]; exact hsteps.trans h⟩
  · exact Or.inr ⟨q, vm₁, B, X₁.warmed, X', hpost, hstep₁ _ fun acts => by rw [doInvoke_state]; exact hsteps⟩
theorem vx_callS (X : Stand p l e R s m args below meth c T locs cells slots) (hexec : p.tables.exec = Jvm.exec) {own : String} {index : Nat} {y : MethodName} {bytes : ByteArray} {maxL : Nat} {ret : Option FieldType}
    (hown : s.vm.findClass own = some m.cls) (hlink : (Cond.methodLink own index y).before args s = true) (hstat : (Cond.static y).before args s = true) (hinit : (Cond.initialized y.cls).before args s = true)
    (hcode : (Cond.code y bytes maxL ret).before args s = true) (hy : y.cls ≠ "java/lang/invoke/MethodHandle" ∧ y.cls ≠ "java/lang/invoke/VarHandle")
    {W9 : Nat} {Pre : Pt → Array Value → Prop} {Post : Pt → Array Value → Option Value → Pt → Prop} {PostX : Pt → Array Value → Addr → Pt → Prop} (hK : vx_Back l R p e below s args y 3 W9 Pre Post PostX)
    {g : JFrame} (hg : g.method = m) (hsize : g.locals.size = c.maxLocals) {argsL rest : List Value} (hlen : ∀ sig, parseMethodDescriptor y.desc = some sig → argsL.length = sig.parameters.length)
    (hstack : g.stack = argsL.reverse ++ rest) (hW : 2 * g.monitorRoom + (rest.map fun v => v.category).sum ≤ W9) (hdg : decode c.code g.pc = .ok (.invokestatic index, 3))
    (hpre : ∀ vm₁, s.WarmedH vm₁ → Pre ⟨T.setVm vm₁, locs, cells, slots⟩ argsL.toArray) :
    (∃ (v : Option Value) (vm₁ : Vm) (B : Pt), s.WarmedH vm₁ ∧ Stand p l e R s m args below meth c B.U B.locs B.cells B.slots ∧ Post ⟨T.setVm vm₁, locs, cells, slots⟩ argsL.toArray v B ∧
      ∀ target, Steps p.tables e below (B.U.setTop { g with pc := g.pc + 3, stack := v.toList ++ rest }) target → Steps p.tables e below (T.setTop g) target) ∨
    (∃ (q : Addr) (vm₁ : Vm) (B : Pt), s.WarmedH vm₁ ∧ Stand p l e R s m args below meth c B.U B.locs B.cells B.slots ∧ PostX ⟨T.setVm vm₁, locs, cells, slots⟩ argsL.toArray q B ∧
      Steps p.tables e below (T.setTop g) ((B.U.setTop { g with stack := rest }).pushFrame (.throwing q))) := by
  obtain ⟨mk, hnamed⟩ := Cond.code_named hcode
  obtain ⟨methM, cM, hmethM, -, -, -, -, -, -, hsigM⟩ := Cond.code_spec hnamed hcode
  have hstatic : methM.isStatic = true := Cond.static_spec hnamed hmethM hstat
  obtain ⟨kP, hkP, -⟩ := className_of_methodNamed hnamed
  have hinitP : kP.init = .initialized := Cond.initialized_spec (findClass_of_methodNamed hnamed) hkP hinit
  obtain ⟨vm₁, X₁, hstep₁⟩ := X.invokestatic hexec hown hlink hnamed hmethM hstatic hkP hinitP hy (g := g) hg (argsL := argsL) (rest := rest) (hlen _ hsigM) hstack hdg
  rcases hK m meth c ⟨T.setVm vm₁, locs, cells, slots⟩ { g with stack := rest } (.invokestatic index) mk argsL.toArray X₁ hg hsize hdg hW (X₁.named hnamed) (hpre vm₁ X₁.warmed) with ⟨v, B, X', hpost, hsteps⟩ | ⟨q, B, X', hpost, hsteps⟩
  · exact Or.inl ⟨v, vm₁, B, X₁.warmed, X', hpost, fun target h => hstep₁ _ fun acts => by rw [doInvoke_state]; exact hsteps.trans h⟩
  · exact Or.inr ⟨q, vm₁, B, X₁.warmed, X', hpost, hstep₁ _ fun acts => by rw [doInvoke_state]; exact hsteps⟩
end Calls
theorem vx_cls {s : State} {T : State} {vm₁ : Vm} {E : String} {k : ClassId} (hW : s.WarmedH vm₁) (h : (T.setVm vm₁).vm.findClass E = some k) : s.vm.findClass E = some k := by
  have h1 : vm₁.findClass E = some k := h
  rw [hW.alike.findClass] at h1
  exact h1
/-- the method's frame g, with q thrown over it -/
def vx_W (p : Program) (l : Launch) (e : Env) (R : Room) (s : State) (m : MethodId) (args : Array Value) (below : List Frame) (meth : Method) (c : Code) (H : Heap) (locs : List Loc) (cells slots : Nat) (Q : State → Prop) (g : JFrame) (q : Addr) : Prop :=
  ∀ T : State, T.heap = H → Stand p l e R s m args below meth c T locs cells slots → ∃ t, Steps p.tables e below ((T.setTop g).pushFrame (.throwing q)) t ∧ Q t
def vx_Run (p : Program) (l : Launch) (e : Env) (R : Room) (s : State) (m : MethodId) (args : Array Value) (below : List Frame) (meth : Method) (c : Code) (H : Heap) (locs : List Loc) (cells slots mc ms : Nat) (g : JFrame) (rest : List Value) (Qa : State → Outcome → State → Prop) (XC : String → State → State → Prop) (free : Addr → Prop) : Prop :=
  ∀ T : State, T.heap = H → Stand p l e R s m args below meth c T locs cells slots →
    (∃ (v : Option Value) (st₀ t T' : State) (L : List Loc), st₀.heap = H ∧ Stand p l e R s m args below meth c T' (locs ++ L) (cells + mc) (slots + ms) ∧ (∀ q ∈ L, free q.base) ∧ T'.heap = t.heap ∧ T'.vm = t.vm ∧ Qa st₀ (.returned v) t ∧
      Goes p e below T g T' { g with pc := g.pc + 3, stack := v.toList ++ rest }) ∨
    (∃ (q : Addr) (st₀ t T' : State) (L : List Loc) (E : String) (ce : Cell), st₀.heap = H ∧ Stand p l e R s m args below meth c T' (locs ++ L) (cells + mc) (slots + ms) ∧ (∀ z ∈ L, free z.base) ∧ T'.heap = t.heap ∧ T'.vm = t.vm ∧ XC E st₀ t ∧ t.heap[q]? = some ce ∧ ce.vm = .none ∧ s.vm.findClass E = some ce.cls ∧
      Steps p.tables e below (T.setTop g) ((T'.setTop { g with stack := rest }).pushFrame (.throwing q)))
def vx_X {S : Type} (px : S → Prop) (B : String → S → State → Prop) (A : Nat → Prop) : String → State → State → Prop := fun E st t => ∃ u : S, px u ∧ B E u t ∧ va_F A st t
section Runs
variable {p : Program} {l : Launch} {e : Env} {R : Room} {s : State} {m : MethodId} {args : Array Value} {below : List Frame} {meth : Method} {c : Code} {H : Heap} {locs : List Loc} {cells slots : Nat}
variable {y : MethodName} {bytes cc : ByteArray} {maxL nL mc ms n index : Nat} {ret : Option FieldType} {ws : List Cond} {rm : Room} {Pc : Array Value → State → Prop} {Qc : Array Value → State → Outcome → State → Prop} {XC : String → State → State → Prop} {free : Addr → Prop} {Ts : List Cond} {own C : String} {b : Addr} {As rest : List Value} {g : JFrame}
theorem vx_callBack (cb : CallB R s args own index y bytes maxL ret ws rm mc ms n) (hM : vx_Met l y ws rm Pc Qc XC mc ms free) (hbl : FrameBlind Pc) : vx_Back l R p e below s args y 3 8 (PreOf R mc ms Pc) (PostOf Qc mc ms free) (vx_Post XC mc ms free) := by
  obtain ⟨hrc, hrs, hfr, hlo, hws, hcw, -, hini, -⟩ := cb
  exact vx_back (bytes := bytes) (maxL := maxL) (ret := ret) hM hbl hrc hrs hfr hlo hws hcw (fun a' U hW => word_at hW (Or.inl (by first | rfl | simp [Cond.onTables, Cond.keeps, Cond.steady])) hini)
theorem vx_runV (S : CallFix p m c cc nL s args Ts own) (hM : vx_Met l y ws rm Pc Qc XC mc ms free) (cw : CallW R s args own C index y bytes maxL ret ws rm mc ms n) (hp : PreV s H C b Pc As)
    (hg : g.method = m) (hn : As.length = n) (hsize : g.locals.size = nL) (hstack : g.stack = As.reverse ++ .ref b :: rest) (hW : 2 * g.monitorRoom + (rest.map fun v => v.category).sum ≤ 8) (hdg : decode cc g.pc = .ok (.invokevirtual index, 3)) (hf : cells + mc ≤ R.cells ∧ slots + ms ≤ R.slots) :
    vx_Run p l e R s m args below meth c H locs cells slots mc ms g rest (Qc (Value.ref b :: As).toArray) XC free := by
  have hK : vx_Back l R p e below s args y 3 8 (PreOf R mc ms Pc) (PostOf Qc mc ms free) (vx_Post XC mc ms free) := vx_callBack cw.1 hM hp.1
  obtain ⟨⟨-, -, -, -, -, -, hcode, -, hy, hlen, hl⟩, hin, hse⟩ := cw
  obtain ⟨hx, hb, hml, ho, -⟩ := S
  obtain ⟨-, ⟨cellB, hcB, hoB, hclB⟩, hPc⟩ := hp
  intro T hT X
  rcases vx_callV X hx (C := C) (bytes := bytes) (maxL := maxL) (ret := ret) ho hl hin hse hcode hy hK (by rw [hT]; exact hcB) hoB hclB hg (hsize.trans hml.symm) (argsL := As) (rest := rest) (fun sig h => hn.trans (hlen sig h)) hstack hW (by rw [hb]; exact hdg)
    (fun vm₁ hW₁ => ⟨hf.1, hf.2, hPc (T.setVm vm₁) hT hW₁⟩) with ⟨v, vm₁, ⟨U', l2, c2, s2⟩, hW₁, X', ⟨g', mk, t, L, e1, e2, hq, h1, hL, h2, h3⟩, st⟩ | ⟨q, vm₁, ⟨U', l2, c2, s2⟩, hW₁, X', ⟨g', mk, t, L, E, ce, e1, e2, hq, hce, hcv, hcl, h1, hL, h2, h3⟩, st⟩
  · dsimp only [Pt.U, Pt.locs, Pt.cells, Pt.slots] at X' e1 e2 h1 h2 h3 st
    subst h1; subst h2; subst h3
    exact Or.inl ⟨v, (T.setVm vm₁).calling g' mk (Value.ref b :: As).toArray, t, U', L, hT, X', hL, e1, e2, hq, st⟩
  · dsimp only [Pt.U, Pt.locs, Pt.cells, Pt.slots] at X' e1 e2 h1 h2 h3 st hcl
    subst h1; subst h2; subst h3
    exact Or.inr ⟨q, (T.setVm vm₁).calling g' mk (Value.ref b :: As).toArray, t, U', L, E, ce, hT, X', hL, e1, e2, hq, hce, hcv, vx_cls hW₁ hcl, st⟩
theorem vx_runS (S : CallFix p m c cc nL s args Ts own) (hM : vx_Met l y ws rm Pc Qc XC mc ms free) (cw : CallB R s args own index y bytes maxL ret ws rm mc ms n ∧ (Cond.static y).before args s = true) (hp : PreS s H Pc As)
    (hg : g.method = m) (hn : As.length = n) (hsize : g.locals.size = nL) (hstack : g.stack = As.reverse ++ rest) (hW : 2 * g.monitorRoom + (rest.map fun v => v.category).sum ≤ 8) (hdg : decode cc g.pc = .ok (.invokestatic index, 3)) (hf : cells + mc ≤ R.cells ∧ slots + ms ≤ R.slots) :
    vx_Run p l e R s m args below meth c H locs cells slots mc ms g rest (Qc As.toArray) XC free := by
  have hK : vx_Back l R p e below s args y 3 8 (PreOf R mc ms Pc) (PostOf Qc mc ms free) (vx_Post XC mc ms free) := vx_callBack cw.1 hM hp.1
  obtain ⟨⟨-, -, -, -, -, -, hcode, hini, hy, hlen, hl⟩, hstt⟩ := cw
  obtain ⟨hx, hb, hml, ho, -⟩ := S
  intro T hT X
  rcases vx_callS X hx (bytes := bytes) (maxL := maxL) (ret := ret) ho hl hstt hini hcode hy hK hg (hsize.trans hml.symm) (argsL := As) (rest := rest) (fun sig h => hn.trans (hlen sig h)) hstack hW (by rw [hb]; exact hdg)
    (fun vm₁ hW₁ => ⟨hf.1, hf.2, hp.2 (T.setVm vm₁) hT hW₁⟩) with ⟨v, vm₁, ⟨U', l2, c2, s2⟩, hW₁, X', ⟨g', mk, t, L, e1, e2, hq, h1, hL, h2, h3⟩, st⟩ | ⟨q, vm₁, ⟨U', l2, c2, s2⟩, hW₁, X', ⟨g', mk, t, L, E, ce, e1, e2, hq, hce, hcv, hcl, h1, hL, h2, h3⟩, st⟩
  · dsimp only [Pt.U, Pt.locs, Pt.cells, Pt.slots] at X' e1 e2 h1 h2 h3 st
    subst h1; subst h2; subst h3
    exact Or.inl ⟨v, (T.setVm vm₁).calling g' mk As.toArray, t, U', L, hT, X', hL, e1, e2, hq, st⟩
  · dsimp only [Pt.U, Pt.locs, Pt.cells, Pt.slots] at X' e1 e2 h1 h2 h3 st hcl
    subst h1; subst h2; subst h3
    exact Or.inr ⟨q, (T.setVm vm₁).calling g' mk As.toArray, t, U', L, E, ce, hT, X', hL, e1, e2, hq, hce, hcv, vx_cls hW₁ hcl, st⟩
end Runs
section Rows
variable {p : Program} {l : Launch} {e : Env} {R : Room} {s : State} {m : MethodId} {args : Array Value} {below : List Frame} {meth : Method} {c : Code} {H : Heap} {locs : List Loc} {cells slots : Nat} {Q : State → Prop}
variable {mc ms : Nat} {free : Addr → Prop} {A0 A1 : Nat → Prop} {H0 : Heap} {a : Array Value} {pc : Nat} {ls : Array Slot} {st0 rest : List Value}
theorem vx_keep {st₀ t T' : State} {L : List Loc} (h0 : st₀.heap = H) (e1 : T'.heap = t.heap) (hS : va_S A0 H0 H locs) (hA : ∀ q, q < H.size → A1 q → A0 q) (hf : ∀ q, free q → A0 q) (hL : ∀ q ∈ L, free q.base) (hF : va_F A1 st₀ t) :
    H.size ≤ T'.heap.size ∧ (∀ q : Nat, q < H.size → ¬ A1 q → T'.heap[q]? = H[q]?) ∧ va_S A0 H0 T'.heap (locs ++ L) := by
  obtain ⟨hz, hk⟩ := hF
  rw [h0] at hz hk
  exact ⟨by rw [e1]; exact hz, fun q h1 h2 => by rw [e1]; exact hk q h1 h2,
    ⟨Nat.le_trans hS.1 (by rw [e1]; exact hz), fun q h1 h2 => by rw [e1, hk q (Nat.lt_of_lt_of_le h1 hS.1) (fun z => h2 (hA q (Nat.lt_of_lt_of_le h1 hS.1) z))]; exact hS.2.1 q h1 h2, fun q hq => by
      rcases List.mem_append.mp hq with h | h
      · exact hS.2.2 q h
      · exact hf _ (hL q h)⟩⟩
theorem vx_calli {S SX : Type} {post : Int32 → S → Prop} {px : SX → Prop} {B : S → State → Prop} {BX : String → SX → State → Prop} {AX : Nat → Prop} (hr : vx_Run p l e R s m args below meth c H locs cells slots mc ms (F0 m pc ls st0) rest (va_Qi post B A1 a) (vx_X px BX AX) free) (hS : va_S A0 H0 H locs) (hA : ∀ q, q < H.size → A1 q → A0 q) (hf : ∀ q, free q → A0 q) (hAX : ∀ q, q < H.size → AX q → A0 q)
    (kx : ∀ (E : String) (ce : Cell) (q9 : Addr) (u : SX) (t : State) (H1 : Heap) (locs1 : List Loc), t.heap = H1 → s.vm.Alike t.vm → px u → BX E u t → H.size ≤ H1.size → (∀ q : Nat, q < H.size → ¬ AX q → H1[q]? = H[q]?) → va_S A0 H0 H1 locs1 → H1[q9]? = some ce → ce.vm = .none → s.vm.findClass E = some ce.cls → vx_W p l e R s m args below meth c H1 locs1 (cells + mc) (slots + ms) Q (F0 m pc ls rest) q9)
    (kk : ∀ (r : Int32) (u : S) (t : State) (H1 : Heap) (locs1 : List Loc), t.heap = H1 → s.vm.Alike t.vm → post r u → B u t → H.size ≤ H1.size → (∀ q : Nat, q < H.size → ¬ A1 q → H1[q]? = H[q]?) → va_S A0 H0 H1 locs1 → W p l e R s m args below meth c H1 locs1 (cells + mc) (slots + ms) Q (F0 m (pc + 3) ls (.int r :: rest))) : W p l e R s m args below meth c H locs cells slots Q (F0 m pc ls st0) := by
  intro T hT X
  rcases hr T hT X with ⟨v, st₀, t, T', L, h0, X', hL, e1, e2, ⟨⟨r, u, hv, hp, hb⟩, hF⟩, st⟩ | ⟨q, st₀, t, T', L, E, ce, h0, X', hL, e1, e2, ⟨u, hp, hb, hF⟩, hce, hcv, hcl, st⟩
  · cases hv
    obtain ⟨k1, k2, k3⟩ := vx_keep h0 e1 hS hA hf hL hF
    obtain ⟨t2, a1, b1⟩ := kk r u t T'.heap (locs ++ L) e1.symm (by rw [← e2]; exact X'.warmed.alike) hp hb k1 k2 k3 T' rfl X'
    exact ⟨t2, st t2 a1, b1⟩
  · obtain ⟨k1, k2, k3⟩ := vx_keep h0 e1 hS hAX hf hL hF
    obtain ⟨t2, a1, b1⟩ := kx E ce q u t T'.heap (locs ++ L) e1.symm (by rw [← e2]; exact X'.warmed.alike) hp hb k1 k2 k3 (by rw [e1]; exact hce) hcv hcl T' rfl X'
    exact ⟨t2, st.trans a1, b1⟩
theorem vx_calll {S SX : Type} {post : Int64 → S → Prop} {px : SX → Prop} {B : S → State → Prop} {BX : String → SX → State → Prop} {AX : Nat → Prop} (hr : vx_Run p l e R s m args below meth c H locs cells slots mc ms (F0 m pc ls st0) rest (va_Ql post B A1 a) (vx_X px BX AX) free) (hS : va_S A0 H0 H locs) (hA : ∀ q, q < H.size → A1 q → A0 q) (hf : ∀ q, free q → A0 q) (hAX : ∀ q, q < H.size → AX q → A0 q)
    (kx : ∀ (E : String) (ce : Cell) (q9 : Addr) (u : SX) (t : State) (H1 : Heap) (locs1 : List Loc), t.heap = H1 → s.vm.Alike t.vm → px u → BX E u t → H.size ≤ H1.size → (∀ q : Nat, q < H.size → ¬ AX q → H1[q]? = H[q]?) → va_S A0 H0 H1 locs1 → H1[q9]? = some ce → ce.vm = .none → s.vm.findClass E = some ce.cls → vx_W p l e R s m args below meth c H1 locs1 (cells + mc) (slots + ms) Q (F0 m pc ls rest) q9)
    (kk : ∀ (r : Int64) (u : S) (t : State) (H1 : Heap) (locs1 : List Loc), t.heap = H1 → s.vm.Alike t.vm → post r u → B u t → H.size ≤ H1.size → (∀ q : Nat, q < H.size → ¬ A1 q → H1[q]? = H[q]?) → va_S A0 H0 H1 locs1 → W p l e R s m args below meth c H1 locs1 (cells + mc) (slots + ms) Q (F0 m (pc + 3) ls (.long r :: rest))) : W p l e R s m args below meth c H locs cells slots Q (F0 m pc ls st0) := by
  intro T hT X
  rcases hr T hT X with ⟨v, st₀, t, T', L, h0, X', hL, e1, e2, ⟨⟨r, u, hv, hp, hb⟩, hF⟩, st⟩ | ⟨q, st₀, t, T', L, E, ce, h0, X', hL, e1, e2, ⟨u, hp, hb, hF⟩, hce, hcv, hcl, st⟩
  · cases hv
    obtain ⟨k1, k2, k3⟩ := vx_keep h0 e1 hS hA hf hL hF
    obtain ⟨t2, a1, b1⟩ := kk r u t T'.heap (locs ++ L) e1.symm (by rw [← e2]; exact X'.warmed.alike) hp hb k1 k2 k3 T' rfl X'
    exact ⟨t2, st t2 a1, b1⟩
  · obtain ⟨k1, k2, k3⟩ := vx_keep h0 e1 hS hAX hf hL hF
    obtain ⟨t2, a1, b1⟩ := kx E ce q u t T'.heap (locs ++ L) e1.symm (by rw [← e2]; exact X'.warmed.alike) hp hb k1 k2 k3 (by rw [e1]; exact hce) hcv hcl T' rfl X'
    exact ⟨t2, st.trans a1, b1⟩
theorem vx_callf {S SX : Type} {post : UInt32 → S → Prop} {px : SX → Prop} {B : S → State → Prop} {BX : String → SX → State → Prop} {AX : Nat → Prop} (hr : vx_Run p l e R s m args below meth c H locs cells slots mc ms (F0 m pc ls st0) rest (va_Qf post B A1 a) (vx_X px BX AX) free) (hS : va_S A0 H0 H locs) (hA : ∀ q, q < H.size → A1 q → A0 q) (hf : ∀ q, free q → A0 q) (hAX : ∀ q, q < H.size → AX q → A0 q)
    (kx : ∀ (E : String) (ce : Cell) (q9 : Addr) (u : SX) (t : State) (H1 : Heap) (locs1 : List Loc), t.heap = H1 → s.vm.Alike t.vm → px u → BX E u t → H.size ≤ H1.size → (∀ q : Nat, q < H.size → ¬ AX q → H1[q]? = H[q]?) → va_S A0 H0 H1 locs1 → H1[q9]? = some ce → ce.vm = .none → s.vm.findClass E = some ce.cls → vx_W p l e R s m args below meth c H1 locs1 (cells + mc) (slots + ms) Q (F0 m pc ls rest) q9)
    (kk : ∀ (r : UInt32) (u : S) (t : State) (H1 : Heap) (locs1 : List Loc), t.heap = H1 → s.vm.Alike t.vm → post r u → B u t → H.size ≤ H1.size → (∀ q : Nat, q < H.size → ¬ A1 q → H1[q]? = H[q]?) → va_S A0 H0 H1 locs1 → W p l e R s m args below meth c H1 locs1 (cells + mc) (slots + ms) Q (F0 m (pc + 3) ls (.float r :: rest))) : W p l e R s m args below meth c H locs cells slots Q (F0 m pc ls st0) := by
  intro T hT X
  rcases hr T hT X with ⟨v, st₀, t, T', L, h0, X', hL, e1, e2, ⟨⟨r, u, hv, hp, hb⟩, hF⟩, st⟩ | ⟨q, st₀, t, T', L, E, ce, h0, X', hL, e1, e2, ⟨u, hp, hb, hF⟩, hce, hcv, hcl, st⟩
  · cases hv
    obtain ⟨k1, k2, k3⟩ := vx_keep h0 e1 hS hA hf hL hF
    obtain ⟨t2, a1, b1⟩ := kk r u t T'.heap (locs ++ L) e1.symm (by rw [← e2]; exact X'.warmed.alike) hp hb k1 k2 k3 T' rfl X'
    exact ⟨t2, st t2 a1, b1⟩
  · obtain ⟨k1, k2, k3⟩ := vx_keep h0 e1 hS hAX hf hL hF
    obtain ⟨t2, a1, b1⟩ := kx E ce q u t T'.heap (locs ++ L) e1.symm (by rw [← e2]; exact X'.warmed.alike) hp hb k1 k2 k3 (by rw [e1]; exact hce) hcv hcl T' rfl X'
    exact ⟨t2, st.trans a1, b1⟩
theorem vx_calld {S SX : Type} {post : UInt64 → S → Prop} {px : SX → Prop} {B : S → State → Prop} {BX : String → SX → State → Prop} {AX : Nat → Prop} (hr : vx_Run p l e R s m args below meth c H locs cells slots mc ms (F0 m pc ls st0) rest (va_Qd post B A1 a) (vx_X px BX AX) free) (hS : va_S A0 H0 H locs) (hA : ∀ q, q < H.size → A1 q → A0 q) (hf : ∀ q, free q → A0 q) (hAX : ∀ q, q < H.size → AX q → A0 q)
    (kx : ∀ (E : String) (ce : Cell) (q9 : Addr) (u : SX) (t : State) (H1 : Heap) (locs1 : List Loc), t.heap = H1 → s.vm.Alike t.vm → px u → BX E u t → H.size ≤ H1.size → (∀ q : Nat, q < H.size → ¬ AX q → H1[q]? = H[q]?) → va_S A0 H0 H1 locs1 → H1[q9]? = some ce → ce.vm = .none → s.vm.findClass E = some ce.cls → vx_W p l e R s m args below meth c H1 locs1 (cells + mc) (slots + ms) Q (F0 m pc ls rest) q9)
    (kk : ∀ (r : UInt64) (u : S) (t : State) (H1 : Heap) (locs1 : List Loc), t.heap = H1 → s.vm.Alike t.vm → post r u → B u t → H.size ≤ H1.size → (∀ q : Nat, q < H.size → ¬ A1 q → H1[q]? = H[q]?) → va_S A0 H0 H1 locs1 → W p l e R s m args below meth c H1 locs1 (cells + mc) (slots + ms) Q (F0 m (pc + 3) ls (.double r :: rest))) : W p l e R s m args below meth c H locs cells slots Q (F0 m pc ls st0) := by
  intro T hT X
  rcases hr T hT X with ⟨v, st₀, t, T', L, h0, X', hL, e1, e2, ⟨⟨r, u, hv, hp, hb⟩, hF⟩, st⟩ | ⟨q, st₀, t, T', L, E, ce, h0, X', hL, e1, e2, ⟨u, hp, hb, hF⟩, hce, hcv, hcl, st⟩
  · cases hv
    obtain ⟨k1, k2, k3⟩ := vx_keep h0 e1 hS hA hf hL hF
    obtain ⟨t2, a1, b1⟩ := kk r u t T'.heap (locs ++ L) e1.symm (by rw [← e2]; exact X'.warmed.alike) hp hb k1 k2 k3 T' rfl X'
    exact ⟨t2, st t2 a1, b1⟩
  · obtain ⟨k1, k2, k3⟩ := vx_keep h0 e1 hS hAX hf hL hF
    obtain ⟨t2, a1, b1⟩ := kx E ce q u t T'.heap (locs ++ L) e1.symm (by rw [← e2]; exact X'.warmed.alike) hp hb k1 k2 k3 (by rw [e1]; exact hce) hcv hcl T' rfl X'
    exact ⟨t2, st.trans a1, b1⟩
theorem vx_callv {S SX : Type} {post : S → Prop} {px : SX → Prop} {B : S → State → Prop} {BX : String → SX → State → Prop} {AX : Nat → Prop} (hr : vx_Run p l e R s m args below meth c H locs cells slots mc ms (F0 m pc ls st0) rest (va_Qv post B A1 a) (vx_X px BX AX) free) (hS : va_S A0 H0 H locs) (hA : ∀ q, q < H.size → A1 q → A0 q) (hf : ∀ q, free q → A0 q) (hAX : ∀ q, q < H.size → AX q → A0 q)
    (kx : ∀ (E : String) (ce : Cell) (q9 : Addr) (u : SX) (t : State) (H1 : Heap) (locs1 : List Loc), t.heap = H1 → s.vm.Alike t.vm → px u → BX E u t → H.size ≤ H1.size → (∀ q : Nat, q < H.size → ¬ AX q → H1[q]? = H[q]?) → va_S A0 H0 H1 locs1 → H1[q9]? = some ce → ce.vm = .none → s.vm.findClass E = some ce.cls → vx_W p l e R s m args below meth c H1 locs1 (cells + mc) (slots + ms) Q (F0 m pc ls rest) q9)
    (kk : ∀ (u : S) (t : State) (H1 : Heap) (locs1 : List Loc), t.heap = H1 → s.vm.Alike t.vm → post u → B u t → H.size ≤ H1.size → (∀ q : Nat, q < H.size → ¬ A1 q → H1[q]? = H[q]?) → va_S A0 H0 H1 locs1 → W p l e R s m args below meth c H1 locs1 (cells + mc) (slots + ms) Q (F0 m (pc + 3) ls (rest))) : W p l e R s m args below meth c H locs cells slots Q (F0 m pc ls st0) := by
  intro T hT X
  rcases hr T hT X with ⟨v, st₀, t, T', L, h0, X', hL, e1, e2, ⟨⟨u, hv, hp, hb⟩, hF⟩, st⟩ | ⟨q, st₀, t, T', L, E, ce, h0, X', hL, e1, e2, ⟨u, hp, hb, hF⟩, hce, hcv, hcl, st⟩
  · cases hv
    obtain ⟨k1, k2, k3⟩ := vx_keep h0 e1 hS hA hf hL hF
    obtain ⟨t2, a1, b1⟩ := kk u t T'.heap (locs ++ L) e1.symm (by rw [← e2]; exact X'.warmed.alike) hp hb k1 k2 k3 T' rfl X'
    exact ⟨t2, st t2 a1, b1⟩
  · obtain ⟨k1, k2, k3⟩ := vx_keep h0 e1 hS hAX hf hL hF
    obtain ⟨t2, a1, b1⟩ := kx E ce q u t T'.heap (locs ++ L) e1.symm (by rw [← e2]; exact X'.warmed.alike) hp hb k1 k2 k3 (by rw [e1]; exact hce) hcv hcl T' rfl X'
    exact ⟨t2, st.trans a1, b1⟩
/-- caught by the row x of this method's table; the rows ahead don't take it -/
theorem vx_catch {own name : String} {E : String} {ce : Cell} {q : Addr} (hown : s.vm.findClass own = some m.cls) (pre : List ExceptionTableEntry) (x : ExceptionTableEntry) (suf : List ExceptionTableEntry) (hsplit : c.exceptionTable.toList = pre ++ x :: suf)
    (hpass : ∀ z ∈ pre, covers z pc = false ∨ (z.catchType ≠ 0 ∧ ∃ nm : String, (Cond.classLink own z.catchType nm).before args s = true ∧ va_Nc E nm s)) (hx : covers x pc = true) (h0 : x.catchType ≠ 0)
    (hlink : (Cond.classLink own x.catchType name).before args s = true) (hcast : (Cond.castable E name).before args s = true) (hcell : H[q]? = some ce) (hv : ce.vm = .none) (hcl : s.vm.findClass E = some ce.cls)
    (kk : W p l e R s m args below meth c H locs cells slots Q (F0 m x.handlerPc ls [.ref q])) : vx_W p l e R s m args below meth c H locs cells slots Q (F0 m pc ls rest) q := by
  intro T hT X
  have hpl : e.platform.magicAccessors = ({} : Platform).magicAccessors := by rw [X.admits.platform]
  obtain ⟨c3, c4, hc3, hc4, hasg⟩ := Cond.castable_spec hcast
  cases Option.some.inj (hc3.symm.trans hcl)
  obtain ⟨c5, hc5, hcl5⟩ := Cond.classLink_spec hown hlink e.platform hpl
  cases Option.some.inj (hc4.symm.trans hc5)
  obtain ⟨vm', X', st⟩ := X.thenCaughtThrough q (g := F0 m pc ls rest) rfl (Steps.refl _) (by rw [hT]; exact hcell) (by rw [hv]; rfl) (by obtain ⟨k9, h9, -⟩ := Vm.findClass_spec hcl; exact ⟨k9, h9⟩) pre x suf hsplit
    (fun z hz => by
      rcases hpass z hz with h | ⟨hz0, nm, hl1, hn1⟩
      · exact Or.inl h
      · obtain ⟨c6, hc6, hcl6⟩ := Cond.classLink_spec hown hl1 e.platform hpl
        obtain ⟨a8, b8, h1, h2, h3⟩ := hn1
        cases Option.some.inj (h1.symm.trans hcl)
        cases Option.some.inj (h2.symm.trans hc6)
        exact Or.inr ⟨hz0, _, hcl6, h3⟩) hx (Or.inr ⟨h0, c4, hcl5, hasg⟩)
  obtain ⟨t, a1, b1⟩ := kk (T.setVm vm') hT X'
  exact ⟨t, st.trans a1, b1⟩
end Rows
section Ends
variable {p : Program} {l : Launch} {e : Env} {R : Room} {s : State} {m : MethodId} {args : Array Value} {below : List Frame} {meth : Method} {c : Code} {H : Heap} {locs : List Loc} {cells slots : Nat} {Q : State → Prop}
variable {mc ms : Nat} {free : Addr → Prop} {A0 A1 : Nat → Prop} {H0 : Heap} {a : Array Value} {ls : Array Slot} {st0 rest : List Value}
variable {Qc : Array Value → State → Outcome → State → Prop} {XC : String → State → State → Prop}
/-- what a body that may throw owes at its end -/
def vx_MQ (below : List Frame) (Qc : Array Value → State → Outcome → State → Prop) (XC : String → State → State → Prop) (a : Array Value) (s : State) (mc ms : Nat) (free : Addr → Prop) : State → Prop := fun t =>
  ∃ o, t.status = .running ∧ Ended t below o ∧ vx_Q Qc XC mc ms free a s o t
theorem vx_ret {g : JFrame} {mc ms : Nat} (k : W p l e R s m args below meth c H locs cells slots (MQ below Qc args s mc ms free) g) : W p l e R s m args below meth c H locs cells slots (vx_MQ below Qc XC args s mc ms free) g := by
  intro T hT X
  obtain ⟨t, a1, o, b1, b2, b3, b4⟩ := k T hT X
  exact ⟨t, a1, o, b1, b2, Or.inl ⟨b3, b4⟩⟩
/-- not caught here: it goes on to the caller -/
theorem vx_widen {g : JFrame} {q : Addr} {k n : Nat} (h1 : cells ≤ k) (h2 : slots ≤ n) (kk : vx_W p l e R s m args below meth c H locs k n Q g q) : vx_W p l e R s m args below meth c H locs cells slots Q g q := fun T hT X => kk T hT (stand_widen X h1 h2)
theorem vx_out {pc : Nat} {E : String} {ce : Cell} {q : Addr} {mc ms : Nat} (hout : ∀ x ∈ c.exceptionTable.toList, covers x pc = false) (hlocks : meth.locks = false) (hcell : H[q]? = some ce) (hv : ce.vm = .none) (hcl : s.vm.findClass E = some ce.cls)
    (hx : ∀ t : State, t.heap = H → s.vm.Alike t.vm → XC E s t) (hf : ∀ z ∈ locs, free z.base) (hc : cells ≤ mc) (hs : slots ≤ ms) :
    vx_W p l e R s m args below meth c H locs cells slots (vx_MQ below Qc XC args s mc ms free) (F0 m pc ls rest) q := by
  intro T hT X
  obtain ⟨st1, hrun, hend, hW, hsm⟩ := X.leaveThrown q (g := F0 m pc ls rest) rfl rfl rfl hout hlocks
  have hcell9 : (T.setFrames (.throwing q :: below)).heap[q]? = some ce := by
    show T.heap[q]? = some ce
    rw [hT]; exact hcell
  exact ⟨_, st1, .threw q, hrun, hend, Or.inr ⟨q, rfl, E, ce, locs, hx _ hT hW.alike, hcell9, hv, hcl, hW, hsm.mono hc hs, hf⟩⟩
theorem vx_frame {U : State} {k n : Nat} (h : s.sameButNew ({ U with vm := s.vm } : State) locs k n) : s.heap.size ≤ U.heap.size ∧ ∀ q : Nat, q < s.heap.size → (∀ z ∈ locs, z.base ≠ q) → U.heap[q]? = s.heap[q]? := by
  obtain ⟨-, h2, -, -, -, h6⟩ := h
  refine ⟨h2, fun q hq hz => ?_⟩
  obtain ⟨c9, e1, e2, e3, e4⟩ := h6 q _ (Array.getElem?_eq_getElem hq)
  have hs : c9.slots = (s.heap[q]).slots := Array.ext_getElem? fun i => e4 i fun hm => hz _ hm rfl
  have h9 : c9 = s.heap[q] := by
    rw [hs] at e2
    exact e2
  have e5 : U.heap[q]? = some c9 := e1
  rw [e5, h9, Array.getElem?_eq_getElem hq]
/-- the words of a throw but the four that speak of the heap -/
def vx_no (w : Cond) : Bool := decide (w ≠ .isRef (.static Bundle.tN "UNASSIGNED_STACK" Bundle.steD)) && decide (w ≠ .isRef (.static Bundle.tN "SUPPRESSED_SENTINEL" Bundle.listD)) && decide (w ≠ .laysStatic Bundle.tN "UNASSIGNED_STACK" Bundle.steD) && decide (w ≠ .laysStatic Bundle.tN "SUPPRESSED_SENTINEL" Bundle.listD)
def vx_at0 (own : String) (ic : Nat) (X : String) (names : List String) : List Cond := (Bundle.ownAtoms0 own ic X names).filter vx_no
def vx_atS (own : String) (ic : Nat) (X : String) (names : List String) : List Cond := (Bundle.ownAtoms own ic X names).filter vx_no
/-- a word that the tables alone decide, or a good one -/
def vx_ot (w : Cond) : Bool := w.onTables || goodWord w
theorem vx_ot_at {args a' : Array Value} {s U : State} {w : Cond} (hW : s.WarmedH U.vm) (hvm : s.vm = U.vm) (hg : vx_ot w = true) (h : w.before args s = true) : w.before a' U = true := by
  simp only [vx_ot, Bool.or_eq_true] at hg
  rcases hg with hg | hg
  · exact va_tabs hg hvm h
  · exact word_at hW (good_of_word hg) h
/-- a list's words: the good ones out of the method's own list, the others by premises of their own -/
theorem vx_hat {args : Array Value} {s : State} {L B : List Cond} (h1 : ∀ w ∈ L.filter goodWord, w.before args s = true) (h2 : ∀ w ∈ L.filter (fun w => !goodWord w), w ∈ B) (h3 : ∀ w ∈ B, w.before args s = true) : ∀ w ∈ L, w.before args s = true := by
  intro w hw
  by_cases g : goodWord w = true
  · exact h1 w (List.mem_filter.mpr ⟨hw, g⟩)
  · refine h3 w (h2 w (List.mem_filter.mpr ⟨hw, ?_⟩))
    show (!goodWord w) = true
    cases hgw : goodWord w
    · rfl
    · exact absurd hgw g
theorem vx_c {args : Array Value} {s : State} {w : Cond} {B : List Cond} (h : w.before args s = true) (t : ∀ w ∈ B, w.before args s = true) : ∀ w' ∈ w :: B, w'.before args s = true := fun w' h' => (List.mem_cons.mp h').elim (fun e => by rw [e]; exact h) (t w')
theorem vx_n {args : Array Value} {s : State} : ∀ w ∈ ([] : List Cond), w.before args s = true := fun _ h => nomatch h
theorem vx_own {args : Array Value} {s : State} {L : List Cond} (h1 : ∀ w ∈ L.filter vx_no, w.before args s = true)
    (hU : (Cond.isRef (.static Bundle.tN "UNASSIGNED_STACK" Bundle.steD)).before args s = true) (hN : (Cond.isRef (.static Bundle.tN "SUPPRESSED_SENTINEL" Bundle.listD)).before args s = true)
    (lU : (Cond.laysStatic Bundle.tN "UNASSIGNED_STACK" Bundle.steD).before args s = true) (lN : (Cond.laysStatic Bundle.tN "SUPPRESSED_SENTINEL" Bundle.listD).before args s = true) : ∀ w ∈ L, w.before args s = true := by
  intro w hw
  by_cases e1 : w = .isRef (.static Bundle.tN "UNASSIGNED_STACK" Bundle.steD)
  · rw [e1]; exact hU
  · by_cases e2 : w = .isRef (.static Bundle.tN "SUPPRESSED_SENTINEL" Bundle.listD)
    · rw [e2]; exact hN
    · by_cases e3 : w = .laysStatic Bundle.tN "UNASSIGNED_STACK" Bundle.steD
      · rw [e3]; exact lU
      · by_cases e4 : w = .laysStatic Bundle.tN "SUPPRESSED_SENTINEL" Bundle.listD
        · rw [e4]; exact lN
        · exact h1 w (List.mem_filter.mpr ⟨hw, by unfold vx_no; rw [decide_eq_true e1, decide_eq_true e2, decide_eq_true e3, decide_eq_true e4]; rfl⟩)
/-- where a static field lies, its class's statics cell in H -/
def vx_L (C n d : String) (A : Nat → Prop) (U : State) (H : Heap) : Prop := ∃ (c : ClassId) (k : Class) (i : Nat) (f : Field) (a : Nat) (cell : Cell), U.vm.findClass C = some c ∧ U.fieldFound? C n d = some (c, k, i, f) ∧ f.isStatic = true ∧ k.statics = some a ∧ H[a]? = some cell ∧ cell.vm.isStatics = true ∧ cell.cls = c ∧ f.slot < cell.slots.size ∧ k.staticTypes[f.slot]? = some f.type ∧ ¬ A a
theorem vx_L.moved {C n d : String} {A : Nat → Prop} {u U : State} {H : Heap} (hvm : u.vm.Alike U.vm) (h : vx_L C n d A u H) : vx_L C n d A U H := by
  obtain ⟨c, k, i, f, a, cell, h1, h2, h3, h4, h5, h6, h7, h8, h9, h10⟩ := h
  obtain ⟨k', hi', he⟩ := State.fieldFound?_setVm hvm h2
  exact ⟨c, k', i, f, a, cell, by rw [hvm.findClass]; exact h1, hi', h3, by rw [he]; exact h4, h5, h6, h7, h8, by rw [he]; exact h9, h10⟩
theorem vx_L.kept {C n d : String} {A : Nat → Prop} {U : State} {H H1 : Heap} (h : vx_L C n d A U H) (hq : ∀ a : Nat, a < H.size → ¬ A a → H1[a]? = H[a]?) : vx_L C n d A U H1 := by
  obtain ⟨c, k, i, f, a, cell, h1, h2, h3, h4, h5, h6, h7, h8, h9, h10⟩ := h
  exact ⟨c, k, i, f, a, cell, h1, h2, h3, h4, by rw [hq a (Array.getElem?_eq_some_iff.mp h5).1 h10]; exact h5, h6, h7, h8, h9, h10⟩
theorem vx_L.narrow {C n d : String} {A B : Nat → Prop} {U : State} {H : Heap} (h : vx_L C n d A U H) (hAB : ∀ q, B q → A q) : vx_L C n d B U H := by
  obtain ⟨c, k, i, f, a, cell, h1, h2, h3, h4, h5, h6, h7, h8, h9, h10⟩ := h
  exact ⟨c, k, i, f, a, cell, h1, h2, h3, h4, h5, h6, h7, h8, h9, fun z => h10 (hAB _ z)⟩
theorem vx_L.word {C n d : String} {A : Nat → Prop} {s : State} {args : Array Value} (h : vx_L C n d A s s.heap) : (Cond.laysStatic C n d).before args s = true := by
  obtain ⟨c, k, i, f, a, cell, h1, h2, h3, h4, h5, h6, h7, h8, h9, -⟩ := h
  show (Cond.laysStatic C n d).holds args s none s [] = true
  exact Cond.laysStatic_of h1 h2 h3 h4 h5 h6 h7 h8 h9
/-- .. and what it holds: null or some reference -/
def vx_Zq (C n d : String) (A : Nat → Prop) (U : State) (H : Heap) : Prop := va_Zq C n d A U H ∧ vx_L C n d A U H
theorem vx_Zq.moved {C n d : String} {A : Nat → Prop} {u U : State} {H : Heap} (hvm : u.vm.Alike U.vm) (h : vx_Zq C n d A u H) : vx_Zq C n d A U H := ⟨va_Zq.moved hvm h.1, vx_L.moved hvm h.2⟩
theorem vx_Zq.kept {C n d : String} {A : Nat → Prop} {U : State} {H H1 : Heap} (h : vx_Zq C n d A U H) (hq : ∀ a : Nat, a < H.size → ¬ A a → H1[a]? = H[a]?) : vx_Zq C n d A U H1 := ⟨va_Zq.kept h.1 hq, vx_L.kept h.2 hq⟩
theorem vx_Zq.narrow {C n d : String} {A B : Nat → Prop} {U : State} {H : Heap} (h : vx_Zq C n d A U H) (hAB : ∀ q, B q → A q) : vx_Zq C n d B U H := ⟨va_Zq.narrow h.1 hAB, vx_L.narrow h.2 hAB⟩
theorem vx_Zqof {args : Array Value} {s : State} {C n d : String} {A : Nat → Prop} (hl : (Cond.laysStatic C n d).before args s = true) (hini : (Cond.initialized C).before args s = true) (h : (Cond.isRef (.static C n d)).before args s = true) (hA : ∀ a : Nat, a < s.heap.size → ¬ A a) : vx_Zq C n d A s s.heap := by
  refine ⟨va_Zqof hl hini h hA, ?_⟩
  obtain ⟨c, k, i, f, a, cell, h1, h2, h3, h4, h5, h6, h7, h8, h9⟩ := Cond.laysStatic_spec hl
  exact ⟨c, k, i, f, a, cell, h1, h2, h3, h4, h5, h6, h7, h8, h9, hA a (Array.getElem?_eq_some_iff.mp h5).1⟩
theorem vx_isRef {C n d : String} {v : Value} {A : Nat → Prop} {s : State} {args : Array Value} (h : va_Z C n d v A s s.heap) (hv : v.isRef = true) : (Cond.isRef (.static C n d)).before args s = true := by
  obtain ⟨cf, kf, fi, f, a, cell, h1, h2, h3, h4, h5, h6, h7, -⟩ := h
  have he : (Term.static C n d).eval args s none [] s = some v := by
    simp [Term.eval, State.fieldNamed?, h1, h2, h4, h5, h6, h7]
  simp only [Cond.before, Cond.holds, Cond.value, he]
  cases v <;> simp_all [Value.isRef]
theorem vx_isRefq {C n d : String} {A : Nat → Prop} {s : State} {args : Array Value} (h : va_Zq C n d A s s.heap) : (Cond.isRef (.static C n d)).before args s = true := by
  rcases h with h | ⟨t, h⟩
  · exact vx_isRef h rfl
  · exact vx_isRef h rfl
/-- the same frame, seen from here: as if the method were called anew in this heap -/
theorem vx_rebase {T : State} (X : Stand p l e R s m args below meth c T locs cells slots) {R' : Room} (hf : R'.frames ≤ R.frames) (hl : R'.locals ≤ R.locals) (hc : cells + R'.cells ≤ R.cells) (hs : slots + R'.slots ≤ R.slots) :
    Stand p l e R' ((T.setVm s.vm).setFrames (.invoking m args :: below)) m args below meth c T [] 0 0 := by
  have htop : (T.setVm s.vm).topJava?.isSome := X.here.top
  have hF : ((T.setVm s.vm).setFrames (.invoking m args :: below)).frames = .invoking m args :: below := State.frames_setFrames _ (State.cur_lt_of_top htop)
  obtain ⟨g₀, hg0⟩ := Option.isSome_iff_exists.mp htop
  obtain ⟨r, hr⟩ := State.topJava?_eq_some.mp hg0
  have hl9 : e.platform.stackLimits (T.setVm s.vm).me = e.platform.stackLimits s.me := X.limits
  have hb9 : (T.setVm s.vm).me.stackBytes = s.me.stackBytes := X.bytes
  refine ⟨X.admits, X.cas, X.clock, hF, ?_, X.hears, X.method, X.code, X.here, X.tail, X.warmed, ?_, ?_, ?_⟩
  · have h := X.room
    have hU : ((T.setVm s.vm).setFrames (.invoking m args :: below)).localsInUse = s.localsInUse := by
      rw [State.localsInUse_invoking hF (meth := meth) (c := c) X.method X.code, State.localsInUse_invoking X.frames X.method X.code]
    simp only [State.hasRoom, Bool.and_eq_true, decide_eq_true_eq] at h ⊢
    obtain ⟨⟨⟨⟨h1, h2, h3, h4, h5, h6⟩, h7⟩, h8⟩, h9⟩ := h
    rw [X.frames, List.length_cons] at h2 h3
    have q1 := X.heapSize
    have q2 := X.used
    simp only [hF, hU, List.length_cons, State.stackLimits_setFrames, State.stackBytes_setFrames, hl9, hb9]
    refine ⟨⟨⟨⟨by omega, by omega, by omega, by omega, by omega, h6⟩, ?_⟩, ?_⟩, X.book⟩
    · show T.heap.size + R'.cells ≤ e.platform.maxCells
      omega
    · show T.slotsUsed + R'.slots ≤ e.platform.maxSlots
      omega
  · rw [State.stackLimits_setFrames]; rfl
  · rw [State.stackBytes_setFrames]; rfl
  · refine ⟨?_, Nat.le_refl _, Nat.le_refl _, ?_, ?_, fun a c9 h9 => ⟨c9, h9, rfl, rfl, fun _ _ => rfl⟩⟩
    · obtain ⟨t, ht, -⟩ := State.frames_cons hr
      show T.setVm s.vm = { ((T.setVm s.vm).setFrames (.invoking m args :: below)).setFrames (T.setVm s.vm).frames with heap := T.heap, slotsUsed := T.slotsUsed }
      rw [State.setFrames_setFrames, State.setFrames_self ht]
      rfl
    · show T.slotsUsed = T.slotsUsed + ((T.heap.toList.drop T.heap.size).map (·.slots.size)).sum
      rw [List.drop_eq_nil_of_le (Nat.le_of_eq Array.length_toList)]
      rfl
    · show ((T.heap.toList.drop T.heap.size).map (·.slots.size)).sum ≤ 0
      rw [List.drop_eq_nil_of_le (Nat.le_of_eq Array.length_toList)]
      exact Nat.le_refl _
/-- 'throw new E()': new; dup; invokespecial; athrow -/
theorem vx_throw0 {cc : ByteArray} {pc : Nat} (hexec : p.tables.exec = Jvm.exec) (hb : c.code = cc) (hl : l.stackTraces = false) {own cls : String} {names : List String} {ik ic mc ms : Nat} {A : Nat → Prop}
    (hown : s.vm.findClass own = some m.cls) (hcls : Bundle.fit cls = true) (hnames : ∀ n ∈ names, Bundle.fit n = true)
    (hk : (Cond.classLink own ik cls).before args s = true) (hini : (Cond.initialized cls).before args s = true) (hat : ∀ w ∈ vx_at0 own ic cls names, w.before args s = true)
    (hgood : ∀ w ∈ Cond.classLink own ik cls :: Cond.initialized cls :: vx_at0 own ic cls names, vx_ot w = true)
    (hU : vx_Zq Bundle.tN "UNASSIGNED_STACK" Bundle.steD A s s.heap) (hN : vx_Zq Bundle.tN "SUPPRESSED_SENTINEL" Bundle.listD A s s.heap) (hS : va_S A s.heap H locs) (hsize : ls.size = c.maxLocals)
    (d0 : decode cc pc = .ok (.new ik, 3)) (d3 : decode cc (pc + 3) = .ok (.dup, 1)) (d4 : decode cc (pc + 4) = .ok (.invokespecial ic, 3)) (d7 : decode cc (pc + 7) = .ok (.athrow, 1))
    (hout : ∀ x ∈ c.exceptionTable.toList, covers x (pc + 7) = false)
    (hRframes : names.length + 3 < R.frames) (hRlocals : (rest.map fun v => v.category).sum + (13 * (names.length + 1) + 42) ≤ R.locals) (hRcells : cells + 1 ≤ R.cells) (hRslots : slots + 6 ≤ R.slots) (hlocks : meth.locks = false)
    (hx : ∀ t : State, s.vm.Alike t.vm → H.size ≤ t.heap.size → (∀ q : Nat, q < H.size → t.heap[q]? = H[q]?) → XC cls s t)
    (hf : ∀ z ∈ locs, free z.base) (hc : cells + 1 ≤ mc) (hs : slots + 6 ≤ ms) :
    W p l e R s m args below meth c H locs cells slots (vx_MQ below Qc XC args s mc ms free) (F0 m pc ls rest) := by
  intro T hT X
  have htr : e.platform.stackTraces = false := (show e.platform.stackTraces = l.stackTraces by rw [X.admits.platform]).trans hl
  have Y := vx_rebase X (R' := { frames := R.frames, locals := R.locals, cells := 1, slots := 6 }) (Nat.le_refl _) (Nat.le_refl _) hRcells hRslots
  obtain ⟨s', hA⟩ : ∃ z, z = (T.setVm s.vm).setFrames (.invoking m args :: below) := ⟨_, rfl⟩
  rw [← hA] at Y
  have hvm : s'.vm = s.vm := by rw [hA]; rfl
  have hhp : s'.heap = H := by rw [hA]; exact hT
  have hW0 : s.WarmedH s'.vm := by rw [hvm]; exact State.WarmedH.refl s
  have hat' : ∀ w ∈ vx_at0 own ic cls names, w.before args s' = true := fun w hw => vx_ot_at hW0 hvm.symm (hgood w (List.mem_cons_of_mem _ (List.mem_cons_of_mem _ hw))) (hat w hw)
  have hk' : (Cond.classLink own ik cls).before args s' = true := vx_ot_at hW0 hvm.symm (hgood _ List.mem_cons_self) hk
  have hini' : (Cond.initialized cls).before args s' = true := vx_ot_at hW0 hvm.symm (hgood _ (List.mem_cons_of_mem _ List.mem_cons_self)) hini
  have hU' : vx_Zq Bundle.tN "UNASSIGNED_STACK" Bundle.steD A s' s'.heap := by rw [hhp]; exact vx_Zq.moved hW0.alike (hU.kept hS.2.1)
  have hN' : vx_Zq Bundle.tN "SUPPRESSED_SENTINEL" Bundle.listD A s' s'.heap := by rw [hhp]; exact vx_Zq.moved hW0.alike (hN.kept hS.2.1)
  have h : ∀ w ∈ Bundle.ownAtoms0 own ic cls names, w.before args s' = true := vx_own hat' (vx_isRefq hU'.1) (vx_isRefq hN'.1) hU'.2.word hN'.2.word
  have hown' : s'.vm.findClass own = some m.cls := by rw [hvm]; exact hown
  have hins : (Cond.instantiable cls 6).before args s' = true := h _ (by simp [Bundle.ownAtoms0])
  obtain ⟨vm₁, cX, kX, hfX, hkX, -, -, X₁, st1⟩ := Y.newCold hexec (own := own) (C := cls) (index := ik) (n := 6) hown' hk' hins hini'
    (g := F0 m pc ls rest) rfl (by rw [hb]; exact d0) (Nat.le_refl _) (Nat.le_refl _)
  generalize hT1 : (T.setVm vm₁).pushCell { cls := cX, slots := kX.instanceTypes.map defaultValue, vm := .none } = T1 at X₁ st1
  have hcat : (Value.ref T.heap.size).category = 1 := rfl
  have hcellA : T1.heap[T.heap.size]? = some (freshCell cX kX) := by rw [← hT1]; exact State.heap_pushCell_size _ _
  have d3' : decode c.code (pc + 3) = .ok (.dup, 1) := by rw [hb]; exact d3
  obtain ⟨U, hsteps, hrun, hend, hW, hsame, ce, hce, hO⟩ := X₁.ctorThrow0 hexec htr (own := own) (cls := cls) (names := names) (ic := ic) hown' hcls hnames h (fun x hx => nomatch hx) hfX hkX hcellA (by rw [hhp, hT]; exact Nat.le_refl _)
    (g := { method := m, pc := pc + 4, locals := ls, stack := .ref T.heap.size :: .ref T.heap.size :: rest, locked := none }) rfl hsize rfl rfl (rest := rest) rfl
    (by rw [hb]; exact d4) (by rw [hb]; exact d7) hout hRframes (by simp only [List.map_cons, List.sum_cons, hcat]; omega) hlocks
  obtain ⟨f1, f2⟩ := vx_frame hsame
  rw [hhp] at f1 f2
  have hWs : s.WarmedH U.vm := State.WarmedH.trans hW0 hW
  have hcl : s.vm.findClass cls = some ce.cls := by
    have h9 := hO.cls
    rw [hvm] at h9
    exact h9
  have hall : s.sameButNew ({ U with vm := s.vm } : State) locs mc ms := by
    subst hA
    obtain ⟨e1, e2⟩ := hsame
    rw [State.setFrames_setFrames] at e1
    have h2 : (T.setVm s.vm).sameButNew ({ U with vm := s.vm } : State) [] (0 + 1) (0 + 6) := ⟨e1, e2⟩
    have h3 := X.same.trans h2
    rw [List.append_nil] at h3
    exact h3.mono hc hs
  refine ⟨U, ?_, .threw T.heap.size, hrun, hend, Or.inr ⟨T.heap.size, rfl, cls, ce, locs, hx U hWs.alike f1 (fun q hq => f2 q hq (fun z hz => nomatch hz)), hce, hO.vm, hcl, hWs, hall, hf⟩⟩
  refine st1 _ ?_
  show Steps p.tables e below (T1.setTop { method := m, pc := pc + 3, locals := ls, stack := .ref T.heap.size :: rest, locked := none }) _
  jvm_step X₁.here [X₁.here.top, hexec, d3', Value.category]
  exact hsteps
/-- 'throw new E("text")': new; dup; ldc; invokespecial; athrow -/
theorem vx_throwS {cc : ByteArray} {pc : Nat} (hexec : p.tables.exec = Jvm.exec) (hb : c.code = cc) (hl : l.stackTraces = false) {own cls text : String} {names : List String} {ik is ic mc ms sa : Nat} {A : Nat → Prop}
    (hown : s.vm.findClass own = some m.cls) (hcls : Bundle.fit cls = true) (hnames : ∀ n ∈ names, Bundle.fit n = true)
    (hk : (Cond.classLink own ik cls).before args s = true) (hini : (Cond.initialized cls).before args s = true) (hstr : vk_R own is text sa s) (hat : ∀ w ∈ vx_atS own ic cls names, w.before args s = true)
    (hgood : ∀ w ∈ Cond.classLink own ik cls :: Cond.initialized cls :: vx_atS own ic cls names, vx_ot w = true)
    (hU : vx_Zq Bundle.tN "UNASSIGNED_STACK" Bundle.steD A s s.heap) (hN : vx_Zq Bundle.tN "SUPPRESSED_SENTINEL" Bundle.listD A s s.heap) (hS : va_S A s.heap H locs) (hsize : ls.size = c.maxLocals)
    (d0 : decode cc pc = .ok (.new ik, 3)) (d3 : decode cc (pc + 3) = .ok (.dup, 1)) (d4 : decode cc (pc + 4) = .ok (.ldc is, 2)) (d6 : decode cc (pc + 6) = .ok (.invokespecial ic, 3)) (d9 : decode cc (pc + 9) = .ok (.athrow, 1))
    (hout : ∀ x ∈ c.exceptionTable.toList, covers x (pc + 9) = false)
    (hRframes : names.length + 3 < R.frames) (hRlocals : (rest.map fun v => v.category).sum + (13 * (names.length + 1) + 43) ≤ R.locals) (hRcells : cells + 1 ≤ R.cells) (hRslots : slots + 6 ≤ R.slots) (hlocks : meth.locks = false)
    (hx : ∀ t : State, s.vm.Alike t.vm → H.size ≤ t.heap.size → (∀ q : Nat, q < H.size → t.heap[q]? = H[q]?) → XC cls s t)
    (hf : ∀ z ∈ locs, free z.base) (hc : cells + 1 ≤ mc) (hs : slots + 6 ≤ ms) :
    W p l e R s m args below meth c H locs cells slots (vx_MQ below Qc XC args s mc ms free) (F0 m pc ls rest) := by
  intro T hT X
  have htr : e.platform.stackTraces = false := (show e.platform.stackTraces = l.stackTraces by rw [X.admits.platform]).trans hl
  have Y := vx_rebase X (R' := { frames := R.frames, locals := R.locals, cells := 1, slots := 6 }) (Nat.le_refl _) (Nat.le_refl _) hRcells hRslots
  obtain ⟨s', hA⟩ : ∃ z, z = (T.setVm s.vm).setFrames (.invoking m args :: below) := ⟨_, rfl⟩
  rw [← hA] at Y
  have hvm : s'.vm = s.vm := by rw [hA]; rfl
  have hhp : s'.heap = H := by rw [hA]; exact hT
  have hW0 : s.WarmedH s'.vm := by rw [hvm]; exact State.WarmedH.refl s
  have hat' : ∀ w ∈ vx_atS own ic cls names, w.before args s' = true := fun w hw => vx_ot_at hW0 hvm.symm (hgood w (List.mem_cons_of_mem _ (List.mem_cons_of_mem _ hw))) (hat w hw)
  have hk' : (Cond.classLink own ik cls).before args s' = true := vx_ot_at hW0 hvm.symm (hgood _ List.mem_cons_self) hk
  have hini' : (Cond.initialized cls).before args s' = true := vx_ot_at hW0 hvm.symm (hgood _ (List.mem_cons_of_mem _ List.mem_cons_self)) hini
  have hU' : vx_Zq Bundle.tN "UNASSIGNED_STACK" Bundle.steD A s' s'.heap := by rw [hhp]; exact vx_Zq.moved hW0.alike (hU.kept hS.2.1)
  have hN' : vx_Zq Bundle.tN "SUPPRESSED_SENTINEL" Bundle.listD A s' s'.heap := by rw [hhp]; exact vx_Zq.moved hW0.alike (hN.kept hS.2.1)
  have h : ∀ w ∈ Bundle.ownAtoms own ic cls names, w.before args s' = true := vx_own hat' (vx_isRefq hU'.1) (vx_isRefq hN'.1) hU'.2.word hN'.2.word
  have hown' : s'.vm.findClass own = some m.cls := by rw [hvm]; exact hown
  have hins : (Cond.instantiable cls 6).before args s' = true := h _ (by simp [Bundle.ownAtoms])
  obtain ⟨vm₁, cX, kX, hfX, hkX, -, -, X₁, st1⟩ := Y.newCold hexec (own := own) (C := cls) (index := ik) (n := 6) hown' hk' hins hini'
    (g := F0 m pc ls rest) rfl (by rw [hb]; exact d0) (Nat.le_refl _) (Nat.le_refl _)
  generalize hT1 : (T.setVm vm₁).pushCell { cls := cX, slots := kX.instanceTypes.map defaultValue, vm := .none } = T1 at X₁ st1
  have hcat : (Value.ref T.heap.size).category = 1 := rfl
  have hcellA : T1.heap[T.heap.size]? = some (freshCell cX kX) := by rw [← hT1]; exact State.heap_pushCell_size _ _
  have d3' : decode c.code (pc + 3) = .ok (.dup, 1) := by rw [hb]; exact d3
  have d4' : decode c.code (pc + 4) = .ok (.ldc is, 2) := by rw [hb]; exact d4
  have hstr' : vk_R own is text sa s' := vk_R.warm hW0 hstr
  obtain ⟨U, hsteps, hrun, hend, hW, hsame, ce, hce, hO⟩ := X₁.ctorThrowS hexec htr (own := own) (cls := cls) (names := names) (ic := ic) hown' hcls hnames h (fun x hx => nomatch hx) hfX hkX hcellA (by rw [hhp, hT]; exact Nat.le_refl _) (msg := .ref sa) rfl
    (g := { method := m, pc := pc + 6, locals := ls, stack := .ref sa :: .ref T.heap.size :: .ref T.heap.size :: rest, locked := none }) rfl hsize rfl rfl (rest := rest) rfl
    (by rw [hb]; exact d6) (by rw [hb]; exact d9) hout hRframes (by simp only [List.map_cons, List.sum_cons, hcat]; omega) hlocks
  obtain ⟨f1, f2⟩ := vx_frame hsame
  rw [hhp] at f1 f2
  have hWs : s.WarmedH U.vm := State.WarmedH.trans hW0 hW
  have hcl : s.vm.findClass cls = some ce.cls := by
    have h9 := hO.cls
    rw [hvm] at h9
    exact h9
  have hall : s.sameButNew ({ U with vm := s.vm } : State) locs mc ms := by
    subst hA
    obtain ⟨e1, e2⟩ := hsame
    rw [State.setFrames_setFrames] at e1
    have h2 : (T.setVm s.vm).sameButNew ({ U with vm := s.vm } : State) [] (0 + 1) (0 + 6) := ⟨e1, e2⟩
    have h3 := X.same.trans h2
    rw [List.append_nil] at h3
    exact h3.mono hc hs
  refine ⟨U, ?_, .threw T.heap.size, hrun, hend, Or.inr ⟨T.heap.size, rfl, cls, ce, locs, hx U hWs.alike f1 (fun q hq => f2 q hq (fun z hz => nomatch hz)), hce, hO.vm, hcl, hWs, hall, hf⟩⟩
  refine st1 _ ?_
  show Steps p.tables e below (T1.setTop { method := m, pc := pc + 3, locals := ls, stack := .ref T.heap.size :: rest, locked := none }) _
  jvm_step X₁.here [X₁.here.top, hexec, d3', Value.category]
  exact X₁.ldcString hexec (own := own) (text := text) (index := is) (a := sa) hown' hstr'.1 hstr'.2
    (g := { method := m, pc := pc + 4, locals := ls, stack := .ref T.heap.size :: .ref T.heap.size :: rest, locked := none }) rfl d4' _ hsteps
/-- 'throw new E("text")', the text by a wide index -/
theorem vx_throwSW {cc : ByteArray} {pc : Nat} (hexec : p.tables.exec = Jvm.exec) (hb : c.code = cc) (hl : l.stackTraces = false) {own cls text : String} {names : List String} {ik is ic mc ms sa : Nat} {A : Nat → Prop}
    (hown : s.vm.findClass own = some m.cls) (hcls : Bundle.fit cls = true) (hnames : ∀ n ∈ names, Bundle.fit n = true)
    (hk : (Cond.classLink own ik cls).before args s = true) (hini : (Cond.initialized cls).before args s = true) (hstr : vk_R own is text sa s) (hat : ∀ w ∈ vx_atS own ic cls names, w.before args s = true)
    (hgood : ∀ w ∈ Cond.classLink own ik cls :: Cond.initialized cls :: vx_atS own ic cls names, vx_ot w = true)
    (hU : vx_Zq Bundle.tN "UNASSIGNED_STACK" Bundle.steD A s s.heap) (hN : vx_Zq Bundle.tN "SUPPRESSED_SENTINEL" Bundle.listD A s s.heap) (hS : va_S A s.heap H locs) (hsize : ls.size = c.maxLocals)
    (d0 : decode cc pc = .ok (.new ik, 3)) (d3 : decode cc (pc + 3) = .ok (.dup, 1)) (d4 : decode cc (pc + 4) = .ok (.ldc_w is, 3)) (d7 : decode cc (pc + 7) = .ok (.invokespecial ic, 3)) (d10 : decode cc (pc + 10) = .ok (.athrow, 1))
    (hout : ∀ x ∈ c.exceptionTable.toList, covers x (pc + 10) = false)
    (hRframes : names.length + 3 < R.frames) (hRlocals : (rest.map fun v => v.category).sum + (13 * (names.length + 1) + 43) ≤ R.locals) (hRcells : cells + 1 ≤ R.cells) (hRslots : slots + 6 ≤ R.slots) (hlocks : meth.locks = false)
    (hx : ∀ t : State, s.vm.Alike t.vm → H.size ≤ t.heap.size → (∀ q : Nat, q < H.size → t.heap[q]? = H[q]?) → XC cls s t)
    (hf : ∀ z ∈ locs, free z.base) (hc : cells + 1 ≤ mc) (hs : slots + 6 ≤ ms) :
    W p l e R s m args below meth c H locs cells slots (vx_MQ below Qc XC args s mc ms free) (F0 m pc ls rest) := by
  intro T hT X
  have htr : e.platform.stackTraces = false := (show e.platform.stackTraces = l.stackTraces by rw [X.admits.platform]).trans hl
  have Y := vx_rebase X (R' := { frames := R.frames, locals := R.locals, cells := 1, slots := 6 }) (Nat.le_refl _) (Nat.le_refl _) hRcells hRslots
  obtain ⟨s', hA⟩ : ∃ z, z = (T.setVm s.vm).setFrames (.invoking m args :: below) := ⟨_, rfl⟩
  rw [← hA] at Y
  have hvm : s'.vm = s.vm := by rw [hA]; rfl
  have hhp : s'.heap = H := by rw [hA]; exact hT
  have hW0 : s.WarmedH s'.vm := by rw [hvm]; exact State.WarmedH.refl s
  have hat' : ∀ w ∈ vx_atS own ic cls names, w.before args s' = true := fun w hw => vx_ot_at hW0 hvm.symm (hgood w (List.mem_cons_of_mem _ (List.mem_cons_of_mem _ hw))) (hat w hw)
  have hk' : (Cond.classLink own ik cls).before args s' = true := vx_ot_at hW0 hvm.symm (hgood _ List.mem_cons_self) hk
  have hini' : (Cond.initialized cls).before args s' = true := vx_ot_at hW0 hvm.symm (hgood _ (List.mem_cons_of_mem _ List.mem_cons_self)) hini
  have hU' : vx_Zq Bundle.tN "UNASSIGNED_STACK" Bundle.steD A s' s'.heap := by rw [hhp]; exact vx_Zq.moved hW0.alike (hU.kept hS.2.1)
  have hN' : vx_Zq Bundle.tN "SUPPRESSED_SENTINEL" Bundle.listD A s' s'.heap := by rw [hhp]; exact vx_Zq.moved hW0.alike (hN.kept hS.2.1)
  have h : ∀ w ∈ Bundle.ownAtoms own ic cls names, w.before args s' = true := vx_own hat' (vx_isRefq hU'.1) (vx_isRefq hN'.1) hU'.2.word hN'.2.word
  have hown' : s'.vm.findClass own = some m.cls := by rw [hvm]; exact hown
  have hins : (Cond.instantiable cls 6).before args s' = true := h _ (by simp [Bundle.ownAtoms])
  obtain ⟨vm₁, cX, kX, hfX, hkX, -, -, X₁, st1⟩ := Y.newCold hexec (own := own) (C := cls) (index := ik) (n := 6) hown' hk' hins hini'
    (g := F0 m pc ls rest) rfl (by rw [hb]; exact d0) (Nat.le_refl _) (Nat.le_refl _)
  generalize hT1 : (T.setVm vm₁).pushCell { cls := cX, slots := kX.instanceTypes.map defaultValue, vm := .none } = T1 at X₁ st1
  have hcat : (Value.ref T.heap.size).category = 1 := rfl
  have hcellA : T1.heap[T.heap.size]? = some (freshCell cX kX) := by rw [← hT1]; exact State.heap_pushCell_size _ _
  have d3' : decode c.code (pc + 3) = .ok (.dup, 1) := by rw [hb]; exact d3
  have d4' : decode c.code (pc + 4) = .ok (.ldc_w is, 3) := by rw [hb]; exact d4
  have hstr' : vk_R own is text sa s' := vk_R.warm hW0 hstr
  obtain ⟨U, hsteps, hrun, hend, hW, hsame, ce, hce, hO⟩ := X₁.ctorThrowS hexec htr (own := own) (cls := cls) (names := names) (ic := ic) hown' hcls hnames h (fun x hx => nomatch hx) hfX hkX hcellA (by rw [hhp, hT]; exact Nat.le_refl _) (msg := .ref sa) rfl
    (g := { method := m, pc := pc + 7, locals := ls, stack := .ref sa :: .ref T.heap.size :: .ref T.heap.size :: rest, locked := none }) rfl hsize rfl rfl (rest := rest) rfl
    (by rw [hb]; exact d7) (by rw [hb]; exact d10) hout hRframes (by simp only [List.map_cons, List.sum_cons, hcat]; omega) hlocks
  obtain ⟨f1, f2⟩ := vx_frame hsame
  rw [hhp] at f1 f2
  have hWs : s.WarmedH U.vm := State.WarmedH.trans hW0 hW
  have hcl : s.vm.findClass cls = some ce.cls := by
    have h9 := hO.cls
    rw [hvm] at h9
    exact h9
  have hall : s.sameButNew ({ U with vm := s.vm } : State) locs mc ms := by
    subst hA
    obtain ⟨e1, e2⟩ := hsame
    rw [State.setFrames_setFrames] at e1
    have h2 : (T.setVm s.vm).sameButNew ({ U with vm := s.vm } : State) [] (0 + 1) (0 + 6) := ⟨e1, e2⟩
    have h3 := X.same.trans h2
    rw [List.append_nil] at h3
    exact h3.mono hc hs
  refine ⟨U, ?_, .threw T.heap.size, hrun, hend, Or.inr ⟨T.heap.size, rfl, cls, ce, locs, hx U hWs.alike f1 (fun q hq => f2 q hq (fun z hz => nomatch hz)), hce, hO.vm, hcl, hWs, hall, hf⟩⟩
  refine st1 _ ?_
  show Steps p.tables e below (T1.setTop { method := m, pc := pc + 3, locals := ls, stack := .ref T.heap.size :: rest, locked := none }) _
  jvm_step X₁.here [X₁.here.top, hexec, d3', Value.category]
  exact X₁.ldcStringW hexec (own := own) (text := text) (index := is) (a := sa) hown' hstr'.1 hstr'.2
    (g := { method := m, pc := pc + 4, locals := ls, stack := .ref T.heap.size :: .ref T.heap.size :: rest, locked := none }) rfl d4' _ hsteps
end Ends
section Bodies
variable {l : Launch}
theorem vx_ofW {y : MethodName} {ws ws' : List Cond} {rm : Room} {Pc : Array Value → State → Prop} {Qc : Array Value → State → Outcome → State → Prop} {XC : String → State → State → Prop} {mc ms : Nat} {free : Addr → Prop} {cc : ByteArray} {maxL : Nat} {ret : Option FieldType}
    (hy : plainName y.cls = true) (hw : ws = Cond.code y cc maxL ret :: ws')
    (body : ∀ p e s m args below meth c s₁, BodyLoose p l y (headSpec ws rm) cc maxL ret e s m args below meth c s₁ → c.maxLocals = maxL → (∀ x ∈ c.exceptionTable.toList, False) → Pc args s →
      W p l e (headSpec ws rm).room s m args below meth c s.heap [] 0 0 (vx_MQ below Qc XC args s mc ms free) (entryFrame m args maxL)) : vx_Met l y ws rm Pc Qc XC mc ms free := by
  refine MetFree.of_bodyS (code := cc) (maxLocals := maxL) (ret := ret) hy ?_ ?_
  · intro args s m h hn
    obtain ⟨meth, c, h1, h2, h3, h4, h5, h6, -, -⟩ := Cond.code_spec hn (atoms_spec (ws := ws) h _ (by rw [hw]; exact List.mem_cons_self))
    exact ⟨meth, c, h1, h2, h3, h4, h5, h6⟩
  · intro p e s m args below meth c s₁ B hml hP _
    have hh0 : s₁.heap = s.heap := by rw [B.state]; rfl
    have ht : ∀ x ∈ c.exceptionTable.toList, False := by
      obtain ⟨meth9, c9, h1, h2, -, -, -, -, h7, -⟩ := Cond.code_spec B.named (atoms_spec (ws := ws) B.pre _ (by rw [hw]; exact List.mem_cons_self))
      cases Option.some.inj (h1.symm.trans B.method)
      cases Option.some.inj (h2.symm.trans (Stand.of_body B).code)
      intro x hx
      rw [Array.isEmpty_iff.mp h7] at hx
      cases hx
    obtain ⟨t, a1, o, b1, b2, b3⟩ := body p e s m args below meth c s₁ B hml ht hP s₁ hh0 (Stand.of_body B)
    exact ⟨t, o, a1, b1, b2, b3⟩
/-- the table of a body with handlers -/
theorem vx_table {p : Program} {x y : MethodName} {S : Spec} {cc bytes : ByteArray} {maxL maxL' : Nat} {ret ret' : Option FieldType} {e : Env} {s s₁ : State} {m : MethodId} {args : Array Value} {below : List Frame} {meth : Method} {c : Code} {hh : List (Nat × Nat × Nat × Nat)}
    (B : BodyLoose p l y S cc maxL ret e s m args below meth c s₁) (h : (Cond.codeWith y bytes maxL' ret' hh).before args s = true) : c.exceptionTable.toList = tableOf hh := by
  obtain ⟨m9, meth9, c9, hn9, h1, h2, -, -, h6, -⟩ := Cond.codeWith_spec h
  cases Option.some.inj (hn9.symm.trans B.named)
  cases Option.some.inj (h1.symm.trans B.method)
  cases Option.some.inj (h2.symm.trans (Stand.of_body B).code)
  rw [← h6, table_eq]
end Bodies
end VXA
/-! ===== END ===== -/
/-! ===== BEGIN a static call of a method with an exception table ===== -/
section VXS
variable {p : Program} {l : Launch} {e : Env} {R : Room} {s : State} {m : MethodId} {args : Array Value} {below : List Frame} {meth : Method} {c : Code} {T : State} {H : Heap} {locs : List Loc} {cells slots : Nat}
abbrev vx_CSW (R : Room) (s : State) (args : Array Value) (own : String) (index : Nat) (y : MethodName) (bytes : ByteArray) (maxL : Nat) (ret : Option FieldType) (hh : List (Nat × Nat × Nat × Nat)) (ws : List Cond) (rm : Room) (mc ms n : Nat) : Prop :=
  (rm.cells = mc ∧ rm.slots = ms ∧ rm.frames + 1 ≤ R.frames ∧ 8 + (maxL + 11) + rm.locals ≤ R.locals ∧ (∀ w ∈ ws, ∀ (a' : Array Value) (U : State), s.WarmedH U.vm → w.before a' U = true) ∧ Cond.codeWith y bytes maxL ret hh ∈ ws) ∧
  (Cond.codeWith y bytes maxL ret hh).before args s = true ∧ (Cond.initialized y.cls).before args s = true ∧ (y.cls ≠ "java/lang/invoke/MethodHandle" ∧ y.cls ≠ "java/lang/invoke/VarHandle") ∧
  (∀ sig, parseMethodDescriptor y.desc = some sig → n = sig.parameters.length) ∧ (Cond.methodLink own index y).before args s = true ∧ (Cond.static y).before args s = true
theorem vx_cwSW {own : String} {index maxL mc ms : Nat} {y : MethodName} {bytes : ByteArray} {ret : Option FieldType} {hh : List (Nat × Nat × Nat × Nat)} {Ts ws ws' : List Cond} {rm : Room} (n : Nat) (ht : ∀ w ∈ Ts, w.before args s = true) (hT : GoodIn Ts (va_wsS own index y ws)) (hw : ws = Cond.codeWith y bytes maxL ret hh :: ws') (hrc : rm.cells = mc) (hrs : rm.slots = ms)
    (hd : y.cls ≠ "java/lang/invoke/MethodHandle" ∧ y.cls ≠ "java/lang/invoke/VarHandle" ∧ (parseMethodDescriptor y.desc).map (fun d => d.parameters.length) = some n) (hR : rm.frames + 1 ≤ R.frames ∧ 8 + (maxL + 11) + rm.locals ≤ R.locals) :
    vx_CSW R s args own index y bytes maxL ret hh ws rm mc ms n := by
  have ok : ∀ w ∈ va_wsS own index y ws, w.before args s = true := fun w h => ht w (hT w h).1
  have hG : GoodIn Ts ws := fun w h => hT w (by unfold va_wsS; exact List.mem_append_right _ h)
  have hc : Cond.codeWith y bytes maxL ret hh ∈ ws := by rw [hw]; exact List.mem_cons_self
  refine ⟨⟨hrc, hrs, hR.1, hR.2, pay_in ht hG, hc⟩, ht _ (hG _ hc).1, ok _ (by simp [va_wsS]), ⟨hd.1, hd.2.1⟩, fun sig h => ?_, ok _ (by simp [va_wsS]), ok _ (by simp [va_wsS])⟩
  have h2 := hd.2.2
  rw [h] at h2
  exact (Option.some.inj h2).symm
theorem vx_callSW (X : Stand p l e R s m args below meth c T locs cells slots) (hexec : p.tables.exec = Jvm.exec) {own : String} {index : Nat} {y : MethodName} {bytes : ByteArray} {maxL : Nat} {ret : Option FieldType} {hh : List (Nat × Nat × Nat × Nat)}
    (hown : s.vm.findClass own = some m.cls) (hlink : (Cond.methodLink own index y).before args s = true) (hstat : (Cond.static y).before args s = true) (hinit : (Cond.initialized y.cls).before args s = true)
    (hcode : (Cond.codeWith y bytes maxL ret hh).before args s = true) (hy : y.cls ≠ "java/lang/invoke/MethodHandle" ∧ y.cls ≠ "java/lang/invoke/VarHandle")
    {W9 : Nat} {Pre : Pt → Array Value → Prop} {Post : Pt → Array Value → Option Value → Pt → Prop} (hK : Back l R p e below s args y 3 W9 Pre Post)
    {g : JFrame} (hg : g.method = m) (hsize : g.locals.size = c.maxLocals) {argsL rest : List Value} (hlen : ∀ sig, parseMethodDescriptor y.desc = some sig → argsL.length = sig.parameters.length)
    (hstack : g.stack = argsL.reverse ++ rest) (hW : 2 * g.monitorRoom + (rest.map fun v => v.category).sum ≤ W9) (hdg : decode c.code g.pc = .ok (.invokestatic index, 3))
    (hpre : ∀ vm₁, s.WarmedH vm₁ → Pre ⟨T.setVm vm₁, locs, cells, slots⟩ argsL.toArray) :
    ∃ (v : Option Value) (vm₁ : Vm) (B : Pt), s.WarmedH vm₁ ∧ Stand p l e R s m args below meth c B.U B.locs B.cells B.slots ∧ Post ⟨T.setVm vm₁, locs, cells, slots⟩ argsL.toArray v B ∧
      ∀ target, Steps p.tables e below (B.U.setTop { g with pc := g.pc + 3, stack := v.toList ++ rest }) target → Steps p.tables e below (T.setTop g) target := by
  obtain ⟨mk, methM, cM, hnamed, hmethM, -, -, -, -, -, -, hsigM⟩ := Cond.codeWith_spec hcode
  have hstatic : methM.isStatic = true := Cond.static_spec hnamed hmethM hstat
  obtain ⟨kP, hkP, -⟩ := className_of_methodNamed hnamed
  have hinitP : kP.init = .initialized := Cond.initialized_spec (findClass_of_methodNamed hnamed) hkP hinit
  obtain ⟨vm₁, X₁, hstep₁⟩ := X.invokestatic hexec hown hlink hnamed hmethM hstatic hkP hinitP hy (g := g) hg (argsL := argsL) (rest := rest) (hlen _ hsigM) hstack hdg
  obtain ⟨v, B, X', hpost, hsteps⟩ := hK m meth c ⟨T.setVm vm₁, locs, cells, slots⟩ { g with stack := rest } (.invokestatic index) mk argsL.toArray X₁ hg hsize hdg hW (X₁.named hnamed) (hpre vm₁ X₁.warmed)
  exact ⟨v, vm₁, B, X₁.warmed, X', hpost, fun target h => hstep₁ _ fun acts => by rw [doInvoke_state]; exact hsteps.trans h⟩
theorem vx_runSW {y : MethodName} {bytes cc : ByteArray} {maxL nL mc ms n index : Nat} {ret : Option FieldType} {hh : List (Nat × Nat × Nat × Nat)} {ws : List Cond} {rm : Room} {Pc : Array Value → State → Prop} {Qc : Array Value → State → Outcome → State → Prop} {free : Addr → Prop} {Ts : List Cond} {own : String} {As rest : List Value} {g : JFrame}
    (S : CallFix p m c cc nL s args Ts own) (hM : Met l y ws rm Pc Qc mc ms free) (cw : vx_CSW R s args own index y bytes maxL ret hh ws rm mc ms n) (hp : PreS s H Pc As)
    (hg : g.method = m) (hn : As.length = n) (hsize : g.locals.size = nL) (hstack : g.stack = As.reverse ++ rest) (hW : 2 * g.monitorRoom + (rest.map fun v => v.category).sum ≤ 8) (hdg : decode cc g.pc = .ok (.invokestatic index, 3)) (hf : cells + mc ≤ R.cells ∧ slots + ms ≤ R.slots) :
    va_Run p l e R s m args below meth c H locs cells slots mc ms g rest (Qc As.toArray) (free) := by
  obtain ⟨⟨hrc, hrs, hfr, hlo, hws, hcw⟩, hcode, hini, hy, hlen, hl, hstt⟩ := cw
  have hK : Back l R p e below s args y 3 8 (PreOf R mc ms Pc) (PostOf Qc mc ms free) := va_backW (hh := hh) (bytes := bytes) (maxL := maxL) (ret := ret) hM hp.1 hrc hrs hfr hlo hws hcw (fun a' U hW => word_at hW (Or.inl (by first | rfl | simp [Cond.onTables, Cond.keeps, Cond.steady])) hini)
  obtain ⟨hx, hb, hml, ho, -⟩ := S
  intro T hT X
  obtain ⟨v, vm₁, ⟨U', l2, c2, s2⟩, hW₁, X', ⟨g', mk, t, L, e1, e2, hq, h1, hL, h2, h3⟩, st⟩ := vx_callSW X hx (hh := hh) (bytes := bytes) (maxL := maxL) (ret := ret) ho hl hstt hini hcode hy hK hg (hsize.trans hml.symm) (argsL := As) (rest := rest) (fun sig h => hn.trans (hlen sig h)) hstack hW (by rw [hb]; exact hdg)
    (fun vm₁ hW₁ => ⟨hf.1, hf.2, hp.2 (T.setVm vm₁) hT hW₁⟩)
  dsimp only [Pt.U, Pt.locs, Pt.cells, Pt.slots] at X' e1 e2 h1 h2 h3 st
  subst h1; subst h2; subst h3
  exact ⟨v, (T.setVm vm₁).calling g' mk As.toArray, t, U', L, hT, X', hL, e1, e2, hq, st⟩
/-- not caught here, past rows that name other classes: it goes on to the caller -/
theorem vx_outP {p : Program} {l : Launch} {e : Env} {R : Room} {s : State} {m : MethodId} {args : Array Value} {below : List Frame} {meth : Method} {c : Code} {H : Heap} {locs : List Loc} {cells slots : Nat} {free : Addr → Prop} {ls : Array Slot} {rest : List Value} {Qc : Array Value → State → Outcome → State → Prop} {XC : String → State → State → Prop}
    {pc : Nat} {own E : String} {ce : Cell} {q : Addr} {mc ms : Nat} (hown : s.vm.findClass own = some m.cls) (hlocks : meth.locks = false)
    (hpass : ∀ z ∈ c.exceptionTable.toList, covers z pc = false ∨ (z.catchType ≠ 0 ∧ ∃ nm : String, (Cond.classLink own z.catchType nm).before args s = true ∧ va_Nc E nm s)) (hcell : H[q]? = some ce) (hv : ce.vm = .none) (hcl : s.vm.findClass E = some ce.cls)
    (hx : ∀ t : State, t.heap = H → s.vm.Alike t.vm → XC E s t) (hf : ∀ z ∈ locs, free z.base) (hc : cells ≤ mc) (hs : slots ≤ ms) :
    vx_W p l e R s m args below meth c H locs cells slots (vx_MQ below Qc XC args s mc ms free) (F0 m pc ls rest) q := by
  intro T hT X
  have hpl : e.platform.magicAccessors = ({} : Platform).magicAccessors := by rw [X.admits.platform]
  obtain ⟨vm', hW', X', st⟩ := X.outThrough hlocks q (g := F0 m pc ls rest) rfl rfl rfl (cell := ce) (by rw [hT]; exact hcell) (by rw [hv]; rfl)
    (by obtain ⟨k9, h9, -⟩ := Vm.findClass_spec hcl; exact ⟨k9, h9⟩) (fun z hz => by
      rcases hpass z hz with h | ⟨hz0, nm, hl1, hn1⟩
      · exact Or.inl h
      · obtain ⟨c6, hc6, hcl6⟩ := Cond.classLink_spec hown hl1 e.platform hpl
        obtain ⟨a8, b8, h1, h2, h3⟩ := hn1
        cases Option.some.inj (h1.symm.trans hcl)
        cases Option.some.inj (h2.symm.trans hc6)
        exact Or.inr ⟨hz0, _, hcl6, h3⟩)
  obtain ⟨g₀, hfr⟩ := X'.frames_eq
  have hcell9 : ((T.setVm vm').setFrames (.throwing q :: below)).heap[q]? = some ce := by
    show T.heap[q]? = some ce
    rw [hT]; exact hcell
  have hend : Ended ((T.setVm vm').setFrames (.throwing q :: below)) below (.threw q) := State.frames_setFrames _ (State.cur_lt_of_frames hfr)
  refine ⟨(T.setVm vm').setFrames (.throwing q :: below), ?_, .threw q, X'.here.running, hend, Or.inr ⟨q, rfl, E, ce, locs, hx _ hT (X'.ends _).1.alike, hcell9, hv, hcl, (X'.ends _).1, (X'.ends _).2.mono hc hs, hf⟩⟩
  rw [X.pushThrowing_eq]
  exact st
/-- a thing of a world lies in the heap -/
theorem vx_lt {D : va_G} {cl : List vw_C} {ws : va_W} {H1 : Heap} (h : va_P D cl ws H1) {k : Nat} {q : Nat × va_E} (hk : ws[k]? = some q) : q.1 < H1.size := (h k q hk).lt
end VXS
/-! ===== END ===== -/
/-! ===== BEGIN methods with a table of their own: called by a name, returning or throwing ===== -/
section VXH
/-! vx_backW, vx_callVX, vx_callSX, vx_callVW, vx_runVW, vx_runVX, vx_runSX, vx_ofWH follow the same proofs as their sisters above (Free/Laws.lean, Shelf42/LK1.lean); vx_outP calls Shelf42/NT130.lean (outThrough). -/
section
variable {l : Launch} {R : Room} {p : Program} {e : Env} {below : List Frame} {s : State} {sargs : Array Value} {y : MethodName} {len W9 : Nat}
theorem vx_backW {ws : List Cond} {rm : Room} {Pc : Array Value → State → Prop} {Qc : Array Value → State → Outcome → State → Prop} {XC : String → State → State → Prop} {mc ms : Nat} {free : Addr → Prop} {bytes : ByteArray} {maxL : Nat} {ret : Option FieldType} {hh : List (Nat × Nat × Nat × Nat)}
    (hM : vx_Met l y ws rm Pc Qc XC mc ms free) (hblind : FrameBlind Pc) (hrc : rm.cells = mc) (hrs : rm.slots = ms)
    (hframes : rm.frames + 1 ≤ R.frames) (hlocals : W9 + (maxL + 11) + rm.locals ≤ R.locals)
    (hws : ∀ w ∈ ws, ∀ a' U, s.WarmedH U.vm → w.before a' U = true) (hcode : Cond.codeWith y bytes maxL ret hh ∈ ws) (hinit : ∀ a' U, s.WarmedH U.vm → (Cond.initialized y.cls).before a' U = true) :
    vx_Back l R p e below s sargs y len W9 (PreOf R mc ms Pc) (PostOf Qc mc ms free) (vx_Post XC mc ms free) := by
  intro m meth c A g ig mk a X hg hsize hdg hW hn hp
  have h1 : (headSpec ws rm).pre.before a A.U = true := atoms_intro fun w hw => hws w hw _ _ X.warmed
  have h2 : (Cond.codeWith y bytes maxL ret hh).before a A.U = true := hws _ hcode _ _ X.warmed
  have h3 : (Cond.initialized y.cls).before a A.U = true := hinit _ _ X.warmed
  have h4 : A.cells + (headSpec ws rm).room.cells ≤ R.cells := by rw [show (headSpec ws rm).room.cells = mc from hrc]; exact hp.1
  have h5 : A.slots + (headSpec ws rm).room.slots ≤ R.slots := by rw [show (headSpec ws rm).room.slots = ms from hrs]; exact hp.2.1
  have hPc : Pc a (A.U.calling g mk a) := hblind _ _ _ _ hp.2.2
  obtain ⟨U, Ls, c0, s0⟩ := A
  dsimp only [Pt.U, Pt.locs, Pt.cells, Pt.slots] at h1 h2 h3 h4 h5 X hn hPc ⊢
  obtain ⟨m9, methY, cY, hn9, hmY, hcY, -, hlY, -⟩ := Cond.codeWith_spec h2
  cases Option.some.inj (hn9.symm.trans hn)
  obtain ⟨kY, hkY, -⟩ := className_of_methodNamed hn
  have hinitY : kY.init = .initialized := Cond.initialized_spec (findClass_of_methodNamed hn) hkY h3
  have h : At U g.method c below := by rw [hg]; exact X.here
  have hlocals9 : W9 + (maxL + 11) + (headSpec ws rm).room.locals ≤ R.locals := hlocals
  have happ : (headSpec ws rm).appliesLoose y e.platform (U.calling g mk a) = true :=
    Spec.appliesLoose_calling (g := g) h hdg hn hkY hinitY
      (X.room_calling (g := g) (R' := (headSpec ws rm).room) hsize hmY hcY hframes (by rw [hlY]; omega) h4 h5) h1
  obtain ⟨mid, hmid⟩ := h.above
  have hfr : (U.setTop g).frames = (.java g :: mid) ++ below := by rw [State.frames_setTop' g h.top, hmid]; rfl
  obtain ⟨o, s₂, hsteps, -, hend, hq⟩ := Steps.callFree hM p X.admits X.cas X.clock (acts := []) hfr happ hPc trivial
  have hq' : vx_Q Qc XC mc ms free a (U.calling g mk a) o s₂ := hq
  rw [State.frames_setTop' g h.top] at hend
  obtain ⟨g₀, hg0⟩ := Option.isSome_iff_exists.mp h.top
  obtain ⟨r, hr⟩ := State.topJava?_eq_some.mp hg0
  have hr' : (({ U with heap := s₂.heap, slotsUsed := s₂.slotsUsed } : State).setVm s₂.vm).frames = .java g₀ :: r := hr
  rcases hq' with ⟨hqc, L, hfe, hL⟩ | ⟨q, rfl, E, ce, L, hx, hce, hcv, hcl, hW₂, hsm, hL⟩
  · obtain ⟨⟨v, rfl⟩, hW₂, e2, q2, q3, q4, q5, q6⟩ := id hfe
    have e3 : s₂ = ({ (U.calling g mk a).setFrames s₂.frames with heap := s₂.heap, slotsUsed := s₂.slotsUsed } : State).setVm s₂.vm := by
      have : s₂ = ({ s₂ with vm := (U.calling g mk a).vm } : State).setVm s₂.vm := rfl
      rw [e2] at this
      exact this
    obtain ⟨c₂, i₂, len₂, hc₂, hd₂, hf₂⟩ := hend
    have hW' : U.WarmedH s₂.vm := hW₂
    have hcc : c₂ = c := by
      have h1 : s₂.code? g.method = U.code? g.method := by
        rw [State.code?_eq, State.code?_eq, hW'.alike.method?]
      exact Option.some.inj (hc₂.symm.trans (h1.trans h.code))
    subst hcc
    have hlen : len₂ = len := by rw [hdg] at hd₂; cases hd₂; rfl
    subst hlen
    have hs₂ : s₂ = (({ U with heap := s₂.heap, slotsUsed := s₂.slotsUsed } : State).setVm s₂.vm).setTop { g with pc := g.pc + len₂, stack := v.toList ++ g.stack } := by
      refine e3.trans ?_
      rw [hf₂, State.calling_eq h.top, State.setFrames_setFrames, State.setTop_of_frames _ hr', hr]
      rfl
    have hsame : U.sameButNew ({ U with heap := s₂.heap, slotsUsed := s₂.slotsUsed } : State) L mc ms := by
      refine ⟨?_, q2, q3, q4, q5, q6⟩
      obtain ⟨t, ht, -⟩ := State.frames_cons hr
      show ({ U with heap := s₂.heap, slotsUsed := s₂.slotsUsed } : State) = { U.setFrames U.frames with heap := s₂.heap, slotsUsed := s₂.slotsUsed }
      rw [State.setFrames_self ht]
    subst hg
    refine Or.inl ⟨v, ⟨(({ U with heap := s₂.heap, slotsUsed := s₂.slotsUsed } : State).setVm s₂.vm), Ls ++ L, c0 + mc, s0 + ms⟩,
      ⟨X.admits, X.cas, X.clock, X.frames, X.room, X.hears, X.method, X.code, (X.here.setHeapUsed s₂.heap s₂.slotsUsed).setVm hW'.alike, X.tail, State.WarmedH.trans X.warmed hW', X.limits, X.bytes, X.same.trans (hsame.setVm s.vm)⟩,
      ⟨g, mk, s₂, L, rfl, rfl, hqc, rfl, hL, rfl, rfl⟩, ?_⟩
    show Steps p.tables e below _ ((({ U with heap := s₂.heap, slotsUsed := s₂.slotsUsed } : State).setVm s₂.vm).setTop { g with pc := g.pc + len₂, stack := v.toList ++ g.stack })
    rw [← hs₂]
    exact hsteps
  · obtain ⟨e2, q2, q3, q4, q5, q6⟩ := id hsm
    have e3 : s₂ = ({ (U.calling g mk a).setFrames s₂.frames with heap := s₂.heap, slotsUsed := s₂.slotsUsed } : State).setVm s₂.vm := by
      have : s₂ = ({ s₂ with vm := (U.calling g mk a).vm } : State).setVm s₂.vm := rfl
      rw [e2] at this
      exact this
    have hf₂ : s₂.frames = .throwing q :: .java g :: U.frames.tail := hend
    have hW' : U.WarmedH s₂.vm := hW₂
    have hs₂ : s₂ = ((({ U with heap := s₂.heap, slotsUsed := s₂.slotsUsed } : State).setVm s₂.vm).setTop g).pushFrame (.throwing q) := by
      refine e3.trans ?_
      rw [hf₂, State.calling_eq h.top, State.setFrames_setFrames, State.pushFrame, State.frames_setTop _ hr', State.setTop_of_frames _ hr', State.setFrames_setFrames, hr]
      rfl
    have hsame : U.sameButNew ({ U with heap := s₂.heap, slotsUsed := s₂.slotsUsed } : State) L mc ms := by
      refine ⟨?_, q2, q3, q4, q5, q6⟩
      obtain ⟨t, ht, -⟩ := State.frames_cons hr
      show ({ U with heap := s₂.heap, slotsUsed := s₂.slotsUsed } : State) = { U.setFrames U.frames with heap := s₂.heap, slotsUsed := s₂.slotsUsed }
      rw [State.setFrames_self ht]
    subst hg
    refine Or.inr ⟨q, ⟨(({ U with heap := s₂.heap, slotsUsed := s₂.slotsUsed } : State).setVm s₂.vm), Ls ++ L, c0 + mc, s0 + ms⟩,
      ⟨X.admits, X.cas, X.clock, X.frames, X.room, X.hears, X.method, X.code, (X.here.setHeapUsed s₂.heap s₂.slotsUsed).setVm hW'.alike, X.tail, State.WarmedH.trans X.warmed hW', X.limits, X.bytes, X.same.trans (hsame.setVm s.vm)⟩,
      ⟨g, mk, s₂, L, E, ce, rfl, rfl, hx, hce, hcv, hcl, rfl, hL, rfl, rfl⟩, ?_⟩
    show Steps p.tables e below _ (((({ U with heap := s₂.heap, slotsUsed := s₂.slotsUsed } : State).setVm s₂.vm).setTop g).pushFrame (.throwing q))
    rw [← hs₂]
    exact hsteps
end
variable {p : Program} {l : Launch} {e : Env} {R : Room} {s : State} {m : MethodId} {args : Array Value} {below : List Frame} {meth : Method} {c : Code} {T : State} {H : Heap} {locs : List Loc} {cells slots : Nat}
theorem vx_callVX (X : Stand p l e R s m args below meth c T locs cells slots) (hexec : p.tables.exec = Jvm.exec) {own C : String} {index : Nat} {y : MethodName} {bytes : ByteArray} {maxL : Nat} {ret : Option FieldType} {hh : List (Nat × Nat × Nat × Nat)}
    (hown : s.vm.findClass own = some m.cls) (hlink : (Cond.methodLink own index y).before args s = true) (hinst : (Cond.instanceMethod y).before args s = true) (hsel : (Cond.selects C y y).before args s = true)
    (hcode : (Cond.codeWith y bytes maxL ret hh).before args s = true) (hy : y.cls ≠ "java/lang/invoke/MethodHandle" ∧ y.cls ≠ "java/lang/invoke/VarHandle")
    {W9 : Nat} {Pre : Pt → Array Value → Prop} {Post : Pt → Array Value → Option Value → Pt → Prop} {PostX : Pt → Array Value → Addr → Pt → Prop} (hK : vx_Back l R p e below s args y 3 W9 Pre Post PostX)
    {b : Addr} {cellB : Cell} (hcell : T.heap[b]? = some cellB) (hobj : cellB.vm.isStatics = false) (hcls : s.vm.findClass C = some cellB.cls)
    {g : JFrame} (hg : g.method = m) (hsize : g.locals.size = c.maxLocals) {argsL rest : List Value} (hlen : ∀ sig, parseMethodDescriptor y.desc = some sig → argsL.length = sig.parameters.length)
    (hstack : g.stack = argsL.reverse ++ .ref b :: rest) (hW : 2 * g.monitorRoom + (rest.map fun v => v.category).sum ≤ W9) (hdg : decode c.code g.pc = .ok (.invokevirtual index, 3))
    (hpre : ∀ vm₁, s.WarmedH vm₁ → Pre ⟨T.setVm vm₁, locs, cells, slots⟩ (Value.ref b :: argsL).toArray) :
    (∃ (v : Option Value) (vm₁ : Vm) (B : Pt), s.WarmedH vm₁ ∧ Stand p l e R s m args below meth c B.U B.locs B.cells B.slots ∧ Post ⟨T.setVm vm₁, locs, cells, slots⟩ (Value.ref b :: argsL).toArray v B ∧
      ∀ target, Steps p.tables e below (B.U.setTop { g with pc := g.pc + 3, stack := v.toList ++ rest }) target → Steps p.tables e below (T.setTop g) target) ∨
    (∃ (q : Addr) (vm₁ : Vm) (B : Pt), s.WarmedH vm₁ ∧ Stand p l e R s m args below meth c B.U B.locs B.cells B.slots ∧ PostX ⟨T.setVm vm₁, locs, cells, slots⟩ (Value.ref b :: argsL).toArray q B ∧
      Steps p.tables e below (T.setTop g) ((B.U.setTop { g with stack := rest }).pushFrame (.throwing q))) := by
  obtain ⟨mk, methM, hnamed, hmethM, hstM, habM⟩ := Cond.instanceMethod_spec hinst
  obtain ⟨m8, methM', cM, hn8, hmethM', -, -, -, -, -, -, hsigM⟩ := Cond.codeWith_spec hcode
  cases Option.some.inj (hn8.symm.trans hnamed)
  cases hmethM.symm.trans hmethM'
  obtain ⟨c2, r2, m2, q1, q2, q3, q4, kP, hkP, hkPi⟩ := Cond.selects_spec hsel
  cases hcls.symm.trans q1
  cases (State.methodFound?_of_named hnamed hy).symm.trans q2
  cases hnamed.symm.trans q3
  have hselP : selectMethod e.platform s.vm cellB.cls mk = .method mk := by rw [Launch.admits_selectMethod X.admits]; exact q4
  obtain ⟨vm₁, X₁, hstep₁⟩ := X.invokevirtual hexec hown hlink hnamed hmethM hstM hkP hkPi hy (a := b) (cell := cellB) hcell
    (fun z h => by rw [h] at hobj; cases hobj) hselP hmethM habM hkP hkPi (g := g) hg (argsL := argsL) (rest := rest) (hlen _ hsigM) hstack hdg
  rcases hK m meth c ⟨T.setVm vm₁, locs, cells, slots⟩ { g with stack := rest } (.invokevirtual index) mk (Value.ref b :: argsL).toArray X₁ hg hsize hdg hW (X₁.named hnamed) (hpre vm₁ X₁.warmed) with ⟨v, B, X', hpost, hsteps⟩ | ⟨q, B, X', hpost, hsteps⟩
  · exact Or.inl ⟨v, vm₁, B, X₁.warmed, X', hpost, fun target h => hstep₁ _ fun acts => by rw [doInvoke_state]; exact hsteps.trans h⟩
  · exact Or.inr ⟨q, vm₁, B, X₁.warmed, X', hpost, hstep₁ _ fun acts => by rw [doInvoke_state]; exact hsteps⟩
theorem vx_callSX (X : Stand p l e R s m args below meth c T locs cells slots) (hexec : p.tables.exec = Jvm.exec) {own : String} {index : Nat} {y : MethodName} {bytes : ByteArray} {maxL : Nat} {ret : Option FieldType} {hh : List (Nat × Nat × Nat × Nat)}
    (hown : s.vm.findClass own = some m.cls) (hlink : (Cond.methodLink own index y).before args s = true) (hstat : (Cond.static y).before args s = true) (hinit : (Cond.initialized y.cls).before args s = true)
    (hcode : (Cond.codeWith y bytes maxL ret hh).before args s = true) (hy : y.cls ≠ "java/lang/invoke/MethodHandle" ∧ y.cls ≠ "java/lang/invoke/VarHandle")
    {W9 : Nat} {Pre : Pt → Array Value → Prop} {Post : Pt → Array Value → Option Value → Pt → Prop} {PostX : Pt → Array Value → Addr → Pt → Prop} (hK : vx_Back l R p e below s args y 3 W9 Pre Post PostX)
    {g : JFrame} (hg : g.method = m) (hsize : g.locals.size = c.maxLocals) {argsL rest : List Value} (hlen : ∀ sig, parseMethodDescriptor y.desc = some sig → argsL.length = sig.parameters.length)
    (hstack : g.stack = argsL.reverse ++ rest) (hW : 2 * g.monitorRoom + (rest.map fun v => v.category).sum ≤ W9) (hdg : decode c.code g.pc = .ok (.invokestatic index, 3))
    (hpre : ∀ vm₁, s.WarmedH vm₁ → Pre ⟨T.setVm vm₁, locs, cells, slots⟩ argsL.toArray) :
    (∃ (v : Option Value) (vm₁ : Vm) (B : Pt), s.WarmedH vm₁ ∧ Stand p l e R s m args below meth c B.U B.locs B.cells B.slots ∧ Post ⟨T.setVm vm₁, locs, cells, slots⟩ argsL.toArray v B ∧
      ∀ target, Steps p.tables e below (B.U.setTop { g with pc := g.pc + 3, stack := v.toList ++ rest }) target → Steps p.tables e below (T.setTop g) target) ∨
    (∃ (q : Addr) (vm₁ : Vm) (B : Pt), s.WarmedH vm₁ ∧ Stand p l e R s m args below meth c B.U B.locs B.cells B.slots ∧ PostX ⟨T.setVm vm₁, locs, cells, slots⟩ argsL.toArray q B ∧
      Steps p.tables e below (T.setTop g) ((B.U.setTop { g with stack := rest }).pushFrame (.throwing q))) := by
  obtain ⟨mk, methM, cM, hnamed, hmethM, -, -, -, -, -, -, hsigM⟩ := Cond.codeWith_spec hcode
  have hstatic : methM.isStatic = true := Cond.static_spec hnamed hmethM hstat
  obtain ⟨kP, hkP, -⟩ := className_of_methodNamed hnamed
  have hinitP : kP.init = .initialized := Cond.initialized_spec (findClass_of_methodNamed hnamed) hkP hinit
  obtain ⟨vm₁, X₁, hstep₁⟩ := X.invokestatic hexec hown hlink hnamed hmethM hstatic hkP hinitP hy (g := g) hg (argsL := argsL) (rest := rest) (hlen _ hsigM) hstack hdg
  rcases hK m meth c ⟨T.setVm vm₁, locs, cells, slots⟩ { g with stack := rest } (.invokestatic index) mk argsL.toArray X₁ hg hsize hdg hW (X₁.named hnamed) (hpre vm₁ X₁.warmed) with ⟨v, B, X', hpost, hsteps⟩ | ⟨q, B, X', hpost, hsteps⟩
  · exact Or.inl ⟨v, vm₁, B, X₁.warmed, X', hpost, fun target h => hstep₁ _ fun acts => by rw [doInvoke_state]; exact hsteps.trans h⟩
  · exact Or.inr ⟨q, vm₁, B, X₁.warmed, X', hpost, hstep₁ _ fun acts => by rw [doInvoke_state]; exact hsteps⟩
theorem vx_callVW (X : Stand p l e R s m args below meth c T locs cells slots) (hexec : p.tables.exec = Jvm.exec) {own C : String} {index : Nat} {y : MethodName} {bytes : ByteArray} {maxL : Nat} {ret : Option FieldType} {hh : List (Nat × Nat × Nat × Nat)}
    (hown : s.vm.findClass own = some m.cls) (hlink : (Cond.methodLink own index y).before args s = true) (hinst : (Cond.instanceMethod y).before args s = true) (hsel : (Cond.selects C y y).before args s = true)
    (hcode : (Cond.codeWith y bytes maxL ret hh).before args s = true) (hy : y.cls ≠ "java/lang/invoke/MethodHandle" ∧ y.cls ≠ "java/lang/invoke/VarHandle")
    {W9 : Nat} {Pre : Pt → Array Value → Prop} {Post : Pt → Array Value → Option Value → Pt → Prop} (hK : Back l R p e below s args y 3 W9 Pre Post)
    {b : Addr} {cellB : Cell} (hcell : T.heap[b]? = some cellB) (hobj : cellB.vm.isStatics = false) (hcls : s.vm.findClass C = some cellB.cls)
    {g : JFrame} (hg : g.method = m) (hsize : g.locals.size = c.maxLocals) {argsL rest : List Value} (hlen : ∀ sig, parseMethodDescriptor y.desc = some sig → argsL.length = sig.parameters.length)
    (hstack : g.stack = argsL.reverse ++ .ref b :: rest) (hW : 2 * g.monitorRoom + (rest.map fun v => v.category).sum ≤ W9) (hdg : decode c.code g.pc = .ok (.invokevirtual index, 3))
    (hpre : ∀ vm₁, s.WarmedH vm₁ → Pre ⟨T.setVm vm₁, locs, cells, slots⟩ (Value.ref b :: argsL).toArray) :
    ∃ (v : Option Value) (vm₁ : Vm) (B : Pt), s.WarmedH vm₁ ∧ Stand p l e R s m args below meth c B.U B.locs B.cells B.slots ∧ Post ⟨T.setVm vm₁, locs, cells, slots⟩ (Value.ref b :: argsL).toArray v B ∧
      ∀ target, Steps p.tables e below (B.U.setTop { g with pc := g.pc + 3, stack := v.toList ++ rest }) target → Steps p.tables e below (T.setTop g) target := by
  obtain ⟨mk, methM, hnamed, hmethM, hstM, habM⟩ := Cond.instanceMethod_spec hinst
  obtain ⟨m8, methM', cM, hn8, hmethM', -, -, -, -, -, -, hsigM⟩ := Cond.codeWith_spec hcode
  cases Option.some.inj (hn8.symm.trans hnamed)
  cases hmethM.symm.trans hmethM'
  obtain ⟨c2, r2, m2, q1, q2, q3, q4, kP, hkP, hkPi⟩ := Cond.selects_spec hsel
  cases hcls.symm.trans q1
  cases (State.methodFound?_of_named hnamed hy).symm.trans q2
  cases hnamed.symm.trans q3
  have hselP : selectMethod e.platform s.vm cellB.cls mk = .method mk := by rw [Launch.admits_selectMethod X.admits]; exact q4
  obtain ⟨vm₁, X₁, hstep₁⟩ := X.invokevirtual hexec hown hlink hnamed hmethM hstM hkP hkPi hy (a := b) (cell := cellB) hcell
    (fun z h => by rw [h] at hobj; cases hobj) hselP hmethM habM hkP hkPi (g := g) hg (argsL := argsL) (rest := rest) (hlen _ hsigM) hstack hdg
  obtain ⟨v, B, X', hpost, hsteps⟩ := hK m meth c ⟨T.setVm vm₁, locs, cells, slots⟩ { g with stack := rest } (.invokevirtual index) mk (Value.ref b :: argsL).toArray X₁ hg hsize hdg hW (X₁.named hnamed) (hpre vm₁ X₁.warmed)
  exact ⟨v, vm₁, B, X₁.warmed, X', hpost, fun target h => hstep₁ _ fun acts => by rw [doInvoke_state]; exact hsteps.trans h⟩
abbrev vx_CVW (R : Room) (s : State) (args : Array Value) (own C : String) (index : Nat) (y : MethodName) (bytes : ByteArray) (maxL : Nat) (ret : Option FieldType) (hh : List (Nat × Nat × Nat × Nat)) (ws : List Cond) (rm : Room) (mc ms n : Nat) : Prop :=
  (rm.cells = mc ∧ rm.slots = ms ∧ rm.frames + 1 ≤ R.frames ∧ 8 + (maxL + 11) + rm.locals ≤ R.locals ∧ (∀ w ∈ ws, ∀ (a' : Array Value) (U : State), s.WarmedH U.vm → w.before a' U = true) ∧ Cond.codeWith y bytes maxL ret hh ∈ ws) ∧
  (Cond.codeWith y bytes maxL ret hh).before args s = true ∧ (Cond.initialized y.cls).before args s = true ∧ (y.cls ≠ "java/lang/invoke/MethodHandle" ∧ y.cls ≠ "java/lang/invoke/VarHandle") ∧
  (∀ sig, parseMethodDescriptor y.desc = some sig → n = sig.parameters.length) ∧ (Cond.methodLink own index y).before args s = true ∧ (Cond.instanceMethod y).before args s = true ∧ (Cond.selects C y y).before args s = true
theorem vx_cwVW {own C : String} {index maxL mc ms : Nat} {y : MethodName} {bytes : ByteArray} {ret : Option FieldType} {hh : List (Nat × Nat × Nat × Nat)} {Ts ws ws' : List Cond} {rm : Room} (n : Nat) (ht : ∀ w ∈ Ts, w.before args s = true) (hT : GoodIn Ts (wsV own index C y ws)) (hw : ws = Cond.codeWith y bytes maxL ret hh :: ws') (hrc : rm.cells = mc) (hrs : rm.slots = ms)
    (hd : y.cls = C ∧ y.cls ≠ "java/lang/invoke/MethodHandle" ∧ y.cls ≠ "java/lang/invoke/VarHandle" ∧ (parseMethodDescriptor y.desc).map (fun d => d.parameters.length) = some n) (hR : rm.frames + 1 ≤ R.frames ∧ 8 + (maxL + 11) + rm.locals ≤ R.locals) :
    vx_CVW R s args own C index y bytes maxL ret hh ws rm mc ms n := by
  obtain ⟨hC, hd⟩ := hd
  subst hC
  have ok : ∀ w ∈ wsV own index y.cls y ws, w.before args s = true := fun w h => ht w (hT w h).1
  have hG : GoodIn Ts ws := fun w h => hT w (by unfold wsV; exact List.mem_append_right _ h)
  have hc : Cond.codeWith y bytes maxL ret hh ∈ ws := by rw [hw]; exact List.mem_cons_self
  refine ⟨⟨hrc, hrs, hR.1, hR.2, pay_in ht hG, hc⟩, ht _ (hG _ hc).1, ok _ (by simp [wsV]), ⟨hd.1, hd.2.1⟩, fun sig h => ?_, ok _ (by simp [wsV]), ok _ (by simp [wsV]), ok _ (by simp [wsV])⟩
  have h2 := hd.2.2
  rw [h] at h2
  exact (Option.some.inj h2).symm
theorem vx_runVW {y : MethodName} {bytes cc : ByteArray} {maxL nL mc ms n index : Nat} {ret : Option FieldType} {hh : List (Nat × Nat × Nat × Nat)} {ws : List Cond} {rm : Room} {Pc : Array Value → State → Prop} {Qc : Array Value → State → Outcome → State → Prop} {free : Addr → Prop} {Ts : List Cond} {own C : String} {b : Addr} {As rest : List Value} {g : JFrame}
    (S : CallFix p m c cc nL s args Ts own) (hM : Met l y ws rm Pc Qc mc ms free) (cw : vx_CVW R s args own C index y bytes maxL ret hh ws rm mc ms n) (hp : PreV s H C b Pc As)
    (hg : g.method = m) (hn : As.length = n) (hsize : g.locals.size = nL) (hstack : g.stack = As.reverse ++ .ref b :: rest) (hW : 2 * g.monitorRoom + (rest.map fun v => v.category).sum ≤ 8) (hdg : decode cc g.pc = .ok (.invokevirtual index, 3)) (hf : cells + mc ≤ R.cells ∧ slots + ms ≤ R.slots) :
    va_Run p l e R s m args below meth c H locs cells slots mc ms g rest (Qc (Value.ref b :: As).toArray) free := by
  obtain ⟨⟨hrc, hrs, hfr, hlo, hws, hcw⟩, hcode, hini, hy, hlen, hl, hin, hse⟩ := cw
  have hK : Back l R p e below s args y 3 8 (PreOf R mc ms Pc) (PostOf Qc mc ms free) := va_backW (hh := hh) (bytes := bytes) (maxL := maxL) (ret := ret) hM hp.1 hrc hrs hfr hlo hws hcw (fun a' U hW => word_at hW (Or.inl (by first | rfl | simp [Cond.onTables, Cond.keeps, Cond.steady])) hini)
  obtain ⟨hx, hb, hml, ho, -⟩ := S
  obtain ⟨-, ⟨cellB, hcB, hoB, hclB⟩, hPc⟩ := hp
  intro T hT X
  obtain ⟨v, vm₁, ⟨U', l2, c2, s2⟩, hW₁, X', ⟨g', mk, t, L, e1, e2, hq, h1, hL, h2, h3⟩, st⟩ := vx_callVW X hx (C := C) (hh := hh) (bytes := bytes) (maxL := maxL) (ret := ret) ho hl hin hse hcode hy hK (by rw [hT]; exact hcB) hoB hclB hg (hsize.trans hml.symm) (argsL := As) (rest := rest) (fun sig h => hn.trans (hlen sig h)) hstack hW (by rw [hb]; exact hdg)
    (fun vm₁ hW₁ => ⟨hf.1, hf.2, hPc (T.setVm vm₁) hT hW₁⟩)
  dsimp only [Pt.U, Pt.locs, Pt.cells, Pt.slots] at X' e1 e2 h1 h2 h3 st
  subst h1; subst h2; subst h3
  exact ⟨v, (T.setVm vm₁).calling g' mk (Value.ref b :: As).toArray, t, U', L, hT, X', hL, e1, e2, hq, st⟩
section
variable {y : MethodName} {bytes cc : ByteArray} {maxL nL mc ms n index : Nat} {ret : Option FieldType} {ws : List Cond} {rm : Room} {Pc : Array Value → State → Prop} {Qc : Array Value → State → Outcome → State → Prop} {XC : String → State → State → Prop} {free : Addr → Prop} {Ts : List Cond} {own C : String} {b : Addr} {As rest : List Value} {g : JFrame}
theorem vx_runVX {hh : List (Nat × Nat × Nat × Nat)} (S : CallFix p m c cc nL s args Ts own) (hM : vx_Met l y ws rm Pc Qc XC mc ms free) (cw : vx_CVW R s args own C index y bytes maxL ret hh ws rm mc ms n) (hp : PreV s H C b Pc As)
    (hg : g.method = m) (hn : As.length = n) (hsize : g.locals.size = nL) (hstack : g.stack = As.reverse ++ .ref b :: rest) (hW : 2 * g.monitorRoom + (rest.map fun v => v.category).sum ≤ 8) (hdg : decode cc g.pc = .ok (.invokevirtual index, 3)) (hf : cells + mc ≤ R.cells ∧ slots + ms ≤ R.slots) :
    vx_Run p l e R s m args below meth c H locs cells slots mc ms g rest (Qc (Value.ref b :: As).toArray) XC free := by
  obtain ⟨⟨hrc, hrs, hfr, hlo, hws, hcw⟩, hcode, hini, hy, hlen, hl, hin, hse⟩ := cw
  have hK : vx_Back l R p e below s args y 3 8 (PreOf R mc ms Pc) (PostOf Qc mc ms free) (vx_Post XC mc ms free) := vx_backW (hh := hh) (bytes := bytes) (maxL := maxL) (ret := ret) hM hp.1 hrc hrs hfr hlo hws hcw (fun a' U hW => word_at hW (Or.inl (by first | rfl | simp [Cond.onTables, Cond.keeps, Cond.steady])) hini)
  obtain ⟨hx, hb, hml, ho, -⟩ := S
  obtain ⟨-, ⟨cellB, hcB, hoB, hclB⟩, hPc⟩ := hp
  intro T hT X
  rcases vx_callVX X hx (C := C) (hh := hh) (bytes := bytes) (maxL := maxL) (ret := ret) ho hl hin hse hcode hy hK (by rw [hT]; exact hcB) hoB hclB hg (hsize.trans hml.symm) (argsL := As) (rest := rest) (fun sig h => hn.trans (hlen sig h)) hstack hW (by rw [hb]; exact hdg)
    (fun vm₁ hW₁ => ⟨hf.1, hf.2, hPc (T.setVm vm₁) hT hW₁⟩) with ⟨v, vm₁, ⟨U', l2, c2, s2⟩, hW₁, X', ⟨g', mk, t, L, e1, e2, hq, h1, hL, h2, h3⟩, st⟩ | ⟨q, vm₁, ⟨U', l2, c2, s2⟩, hW₁, X', ⟨g', mk, t, L, E, ce, e1, e2, hq, hce, hcv, hcl, h1, hL, h2, h3⟩, st⟩
  · dsimp only [Pt.U, Pt.locs, Pt.cells, Pt.slots] at X' e1 e2 h1 h2 h3 st
    subst h1; subst h2; subst h3
    exact Or.inl ⟨v, (T.setVm vm₁).calling g' mk (Value.ref b :: As).toArray, t, U', L, hT, X', hL, e1, e2, hq, st⟩
  · dsimp only [Pt.U, Pt.locs, Pt.cells, Pt.slots] at X' e1 e2 h1 h2 h3 st hcl
    subst h1; subst h2; subst h3
    exact Or.inr ⟨q, (T.setVm vm₁).calling g' mk (Value.ref b :: As).toArray, t, U', L, E, ce, hT, X', hL, e1, e2, hq, hce, hcv, vx_cls hW₁ hcl, st⟩
theorem vx_runSX {hh : List (Nat × Nat × Nat × Nat)} (S : CallFix p m c cc nL s args Ts own) (hM : vx_Met l y ws rm Pc Qc XC mc ms free) (cw : vx_CSW R s args own index y bytes maxL ret hh ws rm mc ms n) (hp : PreS s H Pc As)
    (hg : g.method = m) (hn : As.length = n) (hsize : g.locals.size = nL) (hstack : g.stack = As.reverse ++ rest) (hW : 2 * g.monitorRoom + (rest.map fun v => v.category).sum ≤ 8) (hdg : decode cc g.pc = .ok (.invokestatic index, 3)) (hf : cells + mc ≤ R.cells ∧ slots + ms ≤ R.slots) :
    vx_Run p l e R s m args below meth c H locs cells slots mc ms g rest (Qc As.toArray) XC free := by
  obtain ⟨⟨hrc, hrs, hfr, hlo, hws, hcw⟩, hcode, hini, hy, hlen, hl, hstt⟩ := cw
  have hK : vx_Back l R p e below s args y 3 8 (PreOf R mc ms Pc) (PostOf Qc mc ms free) (vx_Post XC mc ms free) := vx_backW (hh := hh) (bytes := bytes) (maxL := maxL) (ret := ret) hM hp.1 hrc hrs hfr hlo hws hcw (fun a' U hW => word_at hW (Or.inl (by first | rfl | simp [Cond.onTables, Cond.keeps, Cond.steady])) hini)
  obtain ⟨hx, hb, hml, ho, -⟩ := S
  intro T hT X
  rcases vx_callSX X hx (hh := hh) (bytes := bytes) (maxL := maxL) (ret := ret) ho hl hstt hini hcode hy hK hg (hsize.trans hml.symm) (argsL := As) (rest := rest) (fun sig h => hn.trans (hlen sig h)) hstack hW (by rw [hb]; exact hdg)
    (fun vm₁ hW₁ => ⟨hf.1, hf.2, hp.2 (T.setVm vm₁) hT hW₁⟩) with ⟨v, vm₁, ⟨U', l2, c2, s2⟩, hW₁, X', ⟨g', mk, t, L, e1, e2, hq, h1, hL, h2, h3⟩, st⟩ | ⟨q, vm₁, ⟨U', l2, c2, s2⟩, hW₁, X', ⟨g', mk, t, L, E, ce, e1, e2, hq, hce, hcv, hcl, h1, hL, h2, h3⟩, st⟩
  · dsimp only [Pt.U, Pt.locs, Pt.cells, Pt.slots] at X' e1 e2 h1 h2 h3 st
    subst h1; subst h2; subst h3
    exact Or.inl ⟨v, (T.setVm vm₁).calling g' mk As.toArray, t, U', L, hT, X', hL, e1, e2, hq, st⟩
  · dsimp only [Pt.U, Pt.locs, Pt.cells, Pt.slots] at X' e1 e2 h1 h2 h3 st hcl
    subst h1; subst h2; subst h3
    exact Or.inr ⟨q, (T.setVm vm₁).calling g' mk As.toArray, t, U', L, E, ce, hT, X', hL, e1, e2, hq, hce, hcv, vx_cls hW₁ hcl, st⟩
end
end VXH
theorem vx_ofWH {l : Launch} {y : MethodName} {ws ws' : List Cond} {rm : Room} {Pc : Array Value → State → Prop} {Qc : Array Value → State → Outcome → State → Prop} {XC : String → State → State → Prop} {mc ms : Nat} {free : Addr → Prop} {cc : ByteArray} {maxL : Nat} {ret : Option FieldType} {hh : List (Nat × Nat × Nat × Nat)}
    (hy : plainName y.cls = true) (hw : ws = Cond.codeWith y cc maxL ret hh :: ws')
    (body : ∀ p e s m args below meth c s₁, BodyLoose p l y (headSpec ws rm) cc maxL ret e s m args below meth c s₁ → c.maxLocals = maxL → Pc args s →
      W p l e (headSpec ws rm).room s m args below meth c s.heap [] 0 0 (vx_MQ below Qc XC args s mc ms free) (entryFrame m args maxL)) : vx_Met l y ws rm Pc Qc XC mc ms free := by
  refine MetFree.of_bodyS (code := cc) (maxLocals := maxL) (ret := ret) hy ?_ ?_
  · intro args s m h hn
    obtain ⟨m9, meth, c, hn9, h1, h2, h3, h4, -, h5, h6, -⟩ := Cond.codeWith_spec (atoms_spec (ws := ws) h _ (by rw [hw]; exact List.mem_cons_self))
    cases hn.symm.trans hn9
    exact ⟨meth, c, h1, h2, h3, h4, h5, h6⟩
  · intro p e s m args below meth c s₁ B hml hP _
    have hh0 : s₁.heap = s.heap := by rw [B.state]; rfl
    obtain ⟨t, a1, o, b1, b2, b3⟩ := body p e s m args below meth c s₁ B hml hP s₁ hh0 (Stand.of_body B)
    exact ⟨t, o, a1, b1, b2, b3⟩
/-! ===== END ===== -/
end
section
/-! ===== BEGIN printed: names, fields, word lists, decode rows ===== -/
def RX0 : String := "ParoleCards$Offence"
def TX0 : u_T := fun k => match k with
  | 0 => ("ParoleCards$Offence", "day", "I", true)
  | 1 => ("ParoleCards$Offence", "days", "I", true)
  | 2 => ("ParoleCards$Offence", "loweredRegime", "Z", true)
  | _ => ("ParoleCards$Offence", "appealed", "Z", false)
def tyX0 : Nat → FieldType := fun k => match k with
  | 0 => .int
  | 1 => .int
  | 2 => .boolean
  | _ => .boolean
abbrev wsX00 : List Cond := u_ws RX0 TX0 4
theorem nmX0 : ∀ a, a < 4 → ∀ b, b < 4 → a ≠ b → (TX0 a).2.1 ≠ (TX0 b).2.1 := by decide +kernel
theorem tyX0_ok : ∀ k, k < 4 → parseFieldDescriptor (TX0 k).2.2.1 = some (tyX0 k) := by decide +kernel
abbrev cX0_init : ByteArray := prog_2_method_1_code
def yX0_init : MethodName := ⟨RX0, "<init>", "(IIZ)V"⟩
abbrev cX0_lowersLimitOn : ByteArray := prog_2_method_2_code
def yX0_lowersLimitOn : MethodName := ⟨RX0, "lowersLimitOn", "(I)Z"⟩
def RX1 : String := "ParoleCards$Order"
def TX1 : u_T := fun k => match k with
  | 0 => ("ParoleCards$Order", "number", "I", true)
  | 1 => ("ParoleCards$Order", "skill", "I", true)
  | 2 => ("ParoleCards$Order", "tools", "LParoleCards$ToolKind;", true)
  | 3 => ("ParoleCards$Order", "wage", "I", true)
  | 4 => ("ParoleCards$Order", "workLeft", "I", false)
  | _ => ("ParoleCards$Order", "peopleOnIt", "I", false)
def tyX1 : Nat → FieldType := fun k => match k with
  | 0 => .int
  | 1 => .int
  | 2 => .object "ParoleCards$ToolKind"
  | 3 => .int
  | 4 => .int
  | _ => .int
abbrev wsX10 : List Cond := u_ws RX1 TX1 6
theorem nmX1 : ∀ a, a < 6 → ∀ b, b < 6 → a ≠ b → (TX1 a).2.1 ≠ (TX1 b).2.1 := by decide +kernel
theorem tyX1_ok : ∀ k, k < 6 → parseFieldDescriptor (TX1 k).2.2.1 = some (tyX1 k) := by decide +kernel
abbrev cX1_init : ByteArray := prog_3_method_1_code
def yX1_init : MethodName := ⟨RX1, "<init>", "(IILParoleCards$ToolKind;II)V"⟩
abbrev cX1_isFinished : ByteArray := prog_3_method_2_code
def yX1_isFinished : MethodName := ⟨RX1, "isFinished", "()Z"⟩
abbrev cX1_hasFreeTool : ByteArray := prog_3_method_3_code
def yX1_hasFreeTool : MethodName := ⟨RX1, "hasFreeTool", "()Z"⟩
def RX2 : String := "ParoleCards$Person"
def TX2 : u_T := fun k => match k with
  | 0 => ("ParoleCards$Person", "admittedOn", "I", true)
  | 1 => ("ParoleCards$Person", "term", "I", true)
  | 2 => ("ParoleCards$Person", "skills", "I", false)
  | 3 => ("ParoleCards$Person", "regimeNow", "I", false)
  | 4 => ("ParoleCards$Person", "workedDays", "I", false)
  | 5 => ("ParoleCards$Person", "courseCount", "I", false)
  | 6 => ("ParoleCards$Person", "courseDays", "I", false)
  | 7 => ("ParoleCards$Person", "offences", "[LParoleCards$Offence;", true)
  | 8 => ("ParoleCards$Person", "offenceCount", "I", false)
  | 9 => ("ParoleCards$Person", "lostDays", "I", false)
  | 10 => ("ParoleCards$Person", "order", "LParoleCards$Order;", false)
  | 11 => ("ParoleCards$Person", "purse", "LParoleCards$Purse;", true)
  | 12 => ("ParoleCards$Person", "released", "Z", false)
  | _ => ("ParoleCards$Person", "releasedOn", "I", false)
def tyX2 : Nat → FieldType := fun k => match k with
  | 0 => .int
  | 1 => .int
  | 2 => .int
  | 3 => .int
  | 4 => .int
  | 5 => .int
  | 6 => .int
  | 7 => .array (.object "ParoleCards$Offence")
  | 8 => .int
  | 9 => .int
  | 10 => .object "ParoleCards$Order"
  | 11 => .object "ParoleCards$Purse"
  | 12 => .boolean
  | _ => .int
abbrev wsX20 : List Cond := u_ws RX2 TX2 14
theorem nmX2 : ∀ a, a < 14 → ∀ b, b < 14 → a ≠ b → (TX2 a).2.1 ≠ (TX2 b).2.1 := by decide +kernel
theorem tyX2_ok : ∀ k, k < 14 → parseFieldDescriptor (TX2 k).2.2.1 = some (tyX2 k) := by decide +kernel
abbrev cX2_init : ByteArray := prog_4_method_1_code
def yX2_init : MethodName := ⟨RX2, "<init>", "(III)V"⟩
abbrev cX2_gainedDays : ByteArray := prog_4_method_2_code
def yX2_gainedDays : MethodName := ⟨RX2, "gainedDays", "()I"⟩
abbrev cX2_releaseDay : ByteArray := prog_4_method_3_code
def yX2_releaseDay : MethodName := ⟨RX2, "releaseDay", "()I"⟩
abbrev cX2_hasSkill : ByteArray := prog_4_method_4_code
def yX2_hasSkill : MethodName := ⟨RX2, "hasSkill", "(I)Z"⟩
abbrev cX2_hasRoomForPaper : ByteArray := prog_4_method_5_code
def yX2_hasRoomForPaper : MethodName := ⟨RX2, "hasRoomForPaper", "()Z"⟩
abbrev cX2_raiseRegime : ByteArray := prog_4_method_6_code
def yX2_raiseRegime : MethodName := ⟨RX2, "raiseRegime", "()V"⟩
abbrev cX2_enterCourse : ByteArray := prog_4_method_7_code
def yX2_enterCourse : MethodName := ⟨RX2, "enterCourse", "(II)V"⟩
abbrev cX2_enterOffence : ByteArray := prog_4_method_8_code
def yX2_enterOffence : MethodName := ⟨RX2, "enterOffence", "(II)I"⟩
abbrev cX2_appealOffence : ByteArray := prog_4_method_9_code
def yX2_appealOffence : MethodName := ⟨RX2, "appealOffence", "(LParoleCards$Offence;)V"⟩
abbrev cX2_joinOrder : ByteArray := prog_4_method_10_code
def yX2_joinOrder : MethodName := ⟨RX2, "joinOrder", "(LParoleCards$Order;)V"⟩
abbrev cX2_leaveOrder : ByteArray := prog_4_method_11_code
def yX2_leaveOrder : MethodName := ⟨RX2, "leaveOrder", "()V"⟩
abbrev cX2_leaveFinishedOrder : ByteArray := prog_4_method_12_code
def yX2_leaveFinishedOrder : MethodName := ⟨RX2, "leaveFinishedOrder", "()V"⟩
abbrev cX2_workOneDay : ByteArray := prog_4_method_13_code
def yX2_workOneDay : MethodName := ⟨RX2, "workOneDay", "()V"⟩
abbrev cX2_limitOfSpan : ByteArray := prog_4_method_14_code
def yX2_limitOfSpan : MethodName := ⟨RX2, "limitOfSpan", "(I)I"⟩
abbrev cX2_mayStillBuy : ByteArray := prog_4_method_15_code
def yX2_mayStillBuy : MethodName := ⟨RX2, "mayStillBuy", "(I)I"⟩
abbrev cX2_isDue : ByteArray := prog_4_method_16_code
def yX2_isDue : MethodName := ⟨RX2, "isDue", "(I)Z"⟩
abbrev cX2_letGo : ByteArray := prog_4_method_17_code
def yX2_letGo : MethodName := ⟨RX2, "letGo", "(I)V"⟩
def RX3 : String := "ParoleCards$Purse"
def TX3 : u_T := fun k => match k with
  | 0 => ("ParoleCards$Purse", "accounts", "[I", true)
  | 1 => ("ParoleCards$Purse", "lastSpan", "I", false)
  | 2 => ("ParoleCards$Purse", "boughtInLastSpan", "I", false)
  | _ => ("ParoleCards$Purse", "paidOutSum", "I", false)
def tyX3 : Nat → FieldType := fun k => match k with
  | 0 => .array .int
  | 1 => .int
  | 2 => .int
  | _ => .int
abbrev wsX30 : List Cond := u_ws RX3 TX3 4
theorem nmX3 : ∀ a, a < 4 → ∀ b, b < 4 → a ≠ b → (TX3 a).2.1 ≠ (TX3 b).2.1 := by decide +kernel
theorem tyX3_ok : ∀ k, k < 4 → parseFieldDescriptor (TX3 k).2.2.1 = some (tyX3 k) := by decide +kernel
abbrev cX3_init : ByteArray := prog_5_method_1_code
def yX3_init : MethodName := ⟨RX3, "<init>", "()V"⟩
abbrev cX3_partWage : ByteArray := prog_5_method_2_code
def yX3_partWage : MethodName := ⟨RX3, "partWage", "(I)V"⟩
abbrev cX3_boughtInSpan : ByteArray := prog_5_method_3_code
def yX3_boughtInSpan : MethodName := ⟨RX3, "boughtInSpan", "(I)I"⟩
abbrev cX3_spend : ByteArray := prog_5_method_4_code
def yX3_spend : MethodName := ⟨RX3, "spend", "(II)V"⟩
abbrev cX3_payOut : ByteArray := prog_5_method_5_code
def yX3_payOut : MethodName := ⟨RX3, "payOut", "()V"⟩
def RX4 : String := "ParoleCards$ToolKind"
def TX4 : u_T := fun k => match k with
  | 0 => ("ParoleCards$ToolKind", "count", "I", false)
  | _ => ("ParoleCards$ToolKind", "countedOut", "I", false)
def tyX4 : Nat → FieldType := fun k => match k with
  | 0 => .int
  | _ => .int
abbrev wsX40 : List Cond := u_ws RX4 TX4 2
theorem nmX4 : ∀ a, a < 2 → ∀ b, b < 2 → a ≠ b → (TX4 a).2.1 ≠ (TX4 b).2.1 := by decide +kernel
theorem tyX4_ok : ∀ k, k < 2 → parseFieldDescriptor (TX4 k).2.2.1 = some (tyX4 k) := by decide +kernel
abbrev cX4_init : ByteArray := prog_6_method_1_code
def yX4_init : MethodName := ⟨RX4, "<init>", "()V"⟩
def RX5 : String := "ParoleCards"
def TX5 : u_T := fun k => match k with
  | 0 => ("ParoleCards", "people", "[LParoleCards$Person;", true)
  | 1 => ("ParoleCards", "orders", "[LParoleCards$Order;", true)
  | 2 => ("ParoleCards", "toolKinds", "[LParoleCards$ToolKind;", true)
  | 3 => ("ParoleCards", "personCount", "I", false)
  | 4 => ("ParoleCards", "orderCount", "I", false)
  | _ => ("ParoleCards", "today", "I", false)
def tyX5 : Nat → FieldType := fun k => match k with
  | 0 => .array (.object "ParoleCards$Person")
  | 1 => .array (.object "ParoleCards$Order")
  | 2 => .array (.object "ParoleCards$ToolKind")
  | 3 => .int
  | 4 => .int
  | _ => .int
abbrev wsX50 : List Cond := u_ws RX5 TX5 6
theorem nmX5 : ∀ a, a < 6 → ∀ b, b < 6 → a ≠ b → (TX5 a).2.1 ≠ (TX5 b).2.1 := by decide +kernel
theorem tyX5_ok : ∀ k, k < 6 → parseFieldDescriptor (TX5 k).2.2.1 = some (tyX5 k) := by decide +kernel
abbrev cX5_init : ByteArray := prog_1_method_1_code
def yX5_init : MethodName := ⟨RX5, "<init>", "()V"⟩
abbrev cX5_admit : ByteArray := prog_1_method_2_code
def yX5_admit : MethodName := ⟨RX5, "admit", "(II)I"⟩
abbrev cX5_course : ByteArray := prog_1_method_3_code
def yX5_course : MethodName := ⟨RX5, "course", "(III)I"⟩
abbrev cX5_offence : ByteArray := prog_1_method_4_code
def yX5_offence : MethodName := ⟨RX5, "offence", "(II)I"⟩
abbrev cX5_appeal : ByteArray := prog_1_method_5_code
def yX5_appeal : MethodName := ⟨RX5, "appeal", "(II)I"⟩
abbrev cX5_release : ByteArray := prog_1_method_6_code
def yX5_release : MethodName := ⟨RX5, "release", "(I)I"⟩
abbrev cX5_isIn : ByteArray := prog_1_method_7_code
def yX5_isIn : MethodName := ⟨RX5, "isIn", "(I)Z"⟩
abbrev cX5_regime : ByteArray := prog_1_method_8_code
def yX5_regime : MethodName := ⟨RX5, "regime", "(I)I"⟩
abbrev cX5_papers : ByteArray := prog_1_method_9_code
def yX5_papers : MethodName := ⟨RX5, "papers", "(IZ)I"⟩
abbrev cX5_setTools : ByteArray := prog_1_method_10_code
def yX5_setTools : MethodName := ⟨RX5, "setTools", "(II)I"⟩
abbrev cX5_toolsOut : ByteArray := prog_1_method_11_code
def yX5_toolsOut : MethodName := ⟨RX5, "toolsOut", "(I)I"⟩
abbrev cX5_addOrder : ByteArray := prog_1_method_12_code
def yX5_addOrder : MethodName := ⟨RX5, "addOrder", "(IIII)I"⟩
abbrev cX5_assign : ByteArray := prog_1_method_13_code
def yX5_assign : MethodName := ⟨RX5, "assign", "(II)I"⟩
abbrev cX5_takeOff : ByteArray := prog_1_method_14_code
def yX5_takeOff : MethodName := ⟨RX5, "takeOff", "(I)I"⟩
abbrev cX5_orderOf : ByteArray := prog_1_method_15_code
def yX5_orderOf : MethodName := ⟨RX5, "orderOf", "(I)I"⟩
abbrev cX5_left : ByteArray := prog_1_method_16_code
def yX5_left : MethodName := ⟨RX5, "left", "(I)I"⟩
abbrev cX5_account : ByteArray := prog_1_method_17_code
def yX5_account : MethodName := ⟨RX5, "account", "(II)I"⟩
abbrev cX5_buy : ByteArray := prog_1_method_18_code
def yX5_buy : MethodName := ⟨RX5, "buy", "(II)I"⟩
abbrev cX5_limit : ByteArray := prog_1_method_19_code
def yX5_limit : MethodName := ⟨RX5, "limit", "(I)I"⟩
abbrev cX5_paidOut : ByteArray := prog_1_method_20_code
def yX5_paidOut : MethodName := ⟨RX5, "paidOut", "(I)I"⟩
abbrev cX5_pass : ByteArray := prog_1_method_21_code
def yX5_pass : MethodName := ⟨RX5, "pass", "(I)I"⟩
abbrev cX5_workInTheShop : ByteArray := prog_1_method_22_code
def yX5_workInTheShop : MethodName := ⟨RX5, "workInTheShop", "()V"⟩
abbrev cX5_letGoThoseDue : ByteArray := prog_1_method_23_code
def yX5_letGoThoseDue : MethodName := ⟨RX5, "letGoThoseDue", "()I"⟩
abbrev cX5_findPerson : ByteArray := prog_1_method_24_code
def yX5_findPerson : MethodName := ⟨RX5, "findPerson", "(I)LParoleCards$Person;"⟩
abbrev cX5_findOffence : ByteArray := prog_1_method_25_code
def yX5_findOffence : MethodName := ⟨RX5, "findOffence", "(LParoleCards$Person;I)LParoleCards$Offence;"⟩
abbrev cX5_findOrder : ByteArray := prog_1_method_26_code
def yX5_findOrder : MethodName := ⟨RX5, "findOrder", "(I)LParoleCards$Order;"⟩
abbrev cX5_findTools : ByteArray := prog_1_method_27_code
def yX5_findTools : MethodName := ⟨RX5, "findTools", "(I)LParoleCards$ToolKind;"⟩
abbrev cX5_checkSkill : ByteArray := prog_1_method_28_code
def yX5_checkSkill : MethodName := ⟨RX5, "checkSkill", "(I)V"⟩
abbrev cX5_checkRange : ByteArray := prog_1_method_29_code
def yX5_checkRange : MethodName := ⟨RX5, "checkRange", "(III)V"⟩
abbrev cX5_checkIn : ByteArray := prog_1_method_30_code
def yX5_checkIn : MethodName := ⟨RX5, "checkIn", "(LParoleCards$Person;)V"⟩
def RX6 : String := "ParoleCardsModel"
def TX6 : u_T := fun k => match k with
  | 0 => ("ParoleCardsModel", "today", "I", false)
  | 1 => ("ParoleCardsModel", "people", "I", false)
  | 2 => ("ParoleCardsModel", "isOut", "[Z", true)
  | 3 => ("ParoleCardsModel", "since", "[I", true)
  | 4 => ("ParoleCardsModel", "term", "[I", true)
  | 5 => ("ParoleCardsModel", "skills", "[I", true)
  | 6 => ("ParoleCardsModel", "regime", "[I", true)
  | 7 => ("ParoleCardsModel", "worked", "[I", true)
  | 8 => ("ParoleCardsModel", "gained", "[I", true)
  | 9 => ("ParoleCardsModel", "papers", "[I", true)
  | 10 => ("ParoleCardsModel", "offences", "[I", true)
  | 11 => ("ParoleCardsModel", "on", "[I", true)
  | 12 => ("ParoleCardsModel", "released", "[I", true)
  | 13 => ("ParoleCardsModel", "paid", "[I", true)
  | 14 => ("ParoleCardsModel", "account", "[I", true)
  | 15 => ("ParoleCardsModel", "span", "[I", true)
  | 16 => ("ParoleCardsModel", "bought", "[I", true)
  | 17 => ("ParoleCardsModel", "lost", "[I", true)
  | 18 => ("ParoleCardsModel", "lostOn", "[I", true)
  | 19 => ("ParoleCardsModel", "isLower", "[Z", true)
  | 20 => ("ParoleCardsModel", "isAppealed", "[Z", true)
  | 21 => ("ParoleCardsModel", "tools", "[I", true)
  | 22 => ("ParoleCardsModel", "orders", "I", false)
  | 23 => ("ParoleCardsModel", "skill", "[I", true)
  | 24 => ("ParoleCardsModel", "kind", "[I", true)
  | 25 => ("ParoleCardsModel", "left", "[I", true)
  | 26 => ("ParoleCardsModel", "wage", "[I", true)
  | _ => ("ParoleCardsModel", "thrown", "I", false)
def tyX6 : Nat → FieldType := fun k => match k with
  | 0 => .int
  | 1 => .int
  | 2 => .array .boolean
  | 3 => .array .int
  | 4 => .array .int
  | 5 => .array .int
  | 6 => .array .int
  | 7 => .array .int
  | 8 => .array .int
  | 9 => .array .int
  | 10 => .array .int
  | 11 => .array .int
  | 12 => .array .int
  | 13 => .array .int
  | 14 => .array .int
  | 15 => .array .int
  | 16 => .array .int
  | 17 => .array .int
  | 18 => .array .int
  | 19 => .array .boolean
  | 20 => .array .boolean
  | 21 => .array .int
  | 22 => .int
  | 23 => .array .int
  | 24 => .array .int
  | 25 => .array .int
  | 26 => .array .int
  | _ => .int
abbrev wsX60 : List Cond := u_ws RX6 TX6 28
theorem nmX6 : ∀ a, a < 28 → ∀ b, b < 28 → a ≠ b → (TX6 a).2.1 ≠ (TX6 b).2.1 := by decide +kernel
theorem tyX6_ok : ∀ k, k < 28 → parseFieldDescriptor (TX6 k).2.2.1 = some (tyX6 k) := by decide +kernel
abbrev cX6_init : ByteArray := prog_8_method_1_code
def yX6_init : MethodName := ⟨RX6, "<init>", "()V"⟩
abbrev cX6_thrown : ByteArray := prog_8_method_2_code
def yX6_thrown : MethodName := ⟨RX6, "thrown", "()I"⟩
abbrev cX6_fails : ByteArray := prog_8_method_3_code
def yX6_fails : MethodName := ⟨RX6, "fails", "(I)Z"⟩
abbrev cX6_lies : ByteArray := prog_8_method_4_code
def yX6_lies : MethodName := ⟨RX6, "lies", "(III)Z"⟩
abbrev cX6_isPerson : ByteArray := prog_8_method_5_code
def yX6_isPerson : MethodName := ⟨RX6, "isPerson", "(I)Z"⟩
abbrev cX6_isOrder : ByteArray := prog_8_method_6_code
def yX6_isOrder : MethodName := ⟨RX6, "isOrder", "(I)Z"⟩
abbrev cX6_admit : ByteArray := prog_8_method_7_code
def yX6_admit : MethodName := ⟨RX6, "admit", "(II)I"⟩
abbrev cX6_gains : ByteArray := prog_8_method_8_code
def yX6_gains : MethodName := ⟨RX6, "gains", "(I)I"⟩
abbrev cX6_loses : ByteArray := prog_8_method_9_code
def yX6_loses : MethodName := ⟨RX6, "loses", "(I)I"⟩
abbrev cX6_releaseOf : ByteArray := prog_8_method_10_code
def yX6_releaseOf : MethodName := ⟨RX6, "releaseOf", "(I)I"⟩
abbrev cX6_raises : ByteArray := prog_8_method_11_code
def yX6_raises : MethodName := ⟨RX6, "raises", "(I)V"⟩
abbrev cX6_course : ByteArray := prog_8_method_12_code
def yX6_course : MethodName := ⟨RX6, "course", "(III)I"⟩
abbrev cX6_offence : ByteArray := prog_8_method_13_code
def yX6_offence : MethodName := ⟨RX6, "offence", "(II)I"⟩
abbrev cX6_appeal : ByteArray := prog_8_method_14_code
def yX6_appeal : MethodName := ⟨RX6, "appeal", "(II)I"⟩
abbrev cX6_release : ByteArray := prog_8_method_15_code
def yX6_release : MethodName := ⟨RX6, "release", "(I)I"⟩
abbrev cX6_isIn : ByteArray := prog_8_method_16_code
def yX6_isIn : MethodName := ⟨RX6, "isIn", "(I)Z"⟩
abbrev cX6_of : ByteArray := prog_8_method_17_code
def yX6_of : MethodName := ⟨RX6, "of", "([II)I"⟩
abbrev cX6_regime : ByteArray := prog_8_method_18_code
def yX6_regime : MethodName := ⟨RX6, "regime", "(I)I"⟩
abbrev cX6_papers : ByteArray := prog_8_method_19_code
def yX6_papers : MethodName := ⟨RX6, "papers", "(IZ)I"⟩
abbrev cX6_isKind : ByteArray := prog_8_method_20_code
def yX6_isKind : MethodName := ⟨RX6, "isKind", "(I)Z"⟩
abbrev cX6_out : ByteArray := prog_8_method_21_code
def yX6_out : MethodName := ⟨RX6, "out", "(I)I"⟩
abbrev cX6_setTools : ByteArray := prog_8_method_22_code
def yX6_setTools : MethodName := ⟨RX6, "setTools", "(II)I"⟩
abbrev cX6_toolsOut : ByteArray := prog_8_method_23_code
def yX6_toolsOut : MethodName := ⟨RX6, "toolsOut", "(I)I"⟩
abbrev cX6_addOrder : ByteArray := prog_8_method_24_code
def yX6_addOrder : MethodName := ⟨RX6, "addOrder", "(IIII)I"⟩
abbrev cX6_assign : ByteArray := prog_8_method_25_code
def yX6_assign : MethodName := ⟨RX6, "assign", "(II)I"⟩
abbrev cX6_takeOff : ByteArray := prog_8_method_26_code
def yX6_takeOff : MethodName := ⟨RX6, "takeOff", "(I)I"⟩
abbrev cX6_orderOf : ByteArray := prog_8_method_27_code
def yX6_orderOf : MethodName := ⟨RX6, "orderOf", "(I)I"⟩
abbrev cX6_left : ByteArray := prog_8_method_28_code
def yX6_left : MethodName := ⟨RX6, "left", "(I)I"⟩
abbrev cX6_account : ByteArray := prog_8_method_29_code
def yX6_account : MethodName := ⟨RX6, "account", "(II)I"⟩
abbrev cX6_rest : ByteArray := prog_8_method_30_code
def yX6_rest : MethodName := ⟨RX6, "rest", "(I)I"⟩
abbrev cX6_buy : ByteArray := prog_8_method_31_code
def yX6_buy : MethodName := ⟨RX6, "buy", "(II)I"⟩
abbrev cX6_limit : ByteArray := prog_8_method_32_code
def yX6_limit : MethodName := ⟨RX6, "limit", "(I)I"⟩
abbrev cX6_paidOut : ByteArray := prog_8_method_33_code
def yX6_paidOut : MethodName := ⟨RX6, "paidOut", "(I)I"⟩
abbrev cX6_works : ByteArray := prog_8_method_34_code
def yX6_works : MethodName := ⟨RX6, "works", "(I)V"⟩
abbrev cX6_goes : ByteArray := prog_8_method_35_code
def yX6_goes : MethodName := ⟨RX6, "goes", "(I)I"⟩
abbrev cX6_pass : ByteArray := prog_8_method_36_code
def yX6_pass : MethodName := ⟨RX6, "pass", "(I)I"⟩
def RJ9 : String := "java/lang/Math"
def TJ9 : u_T := fun k => match k with
  | _ => ("", "", "", false)
def tyJ9 : Nat → FieldType := fun k => match k with
  | _ => .int
abbrev wsJ90 : List Cond := u_ws RJ9 TJ9 0
theorem nmJ9 : ∀ a, a < 0 → ∀ b, b < 0 → a ≠ b → (TJ9 a).2.1 ≠ (TJ9 b).2.1 := by decide +kernel
theorem tyJ9_ok : ∀ k, k < 0 → parseFieldDescriptor (TJ9 k).2.2.1 = some (tyJ9 k) := by decide +kernel
abbrev cJ9_max_7cf53 : ByteArray := prog_13_method_65_code
def yJ9_max_7cf53 : MethodName := ⟨RJ9, "max", "(II)I"⟩
abbrev cJ9_min_7cf53 : ByteArray := prog_13_method_69_code
def yJ9_min_7cf53 : MethodName := ⟨RJ9, "min", "(II)I"⟩
def RJ0 : String := "java/lang/String"
def TJ0 : u_T := fun k => match k with
  | _ => ("", "", "", false)
def tyJ0 : Nat → FieldType := fun k => match k with
  | _ => .int
abbrev wsJ00 : List Cond := u_ws RJ0 TJ0 0
theorem nmJ0 : ∀ a, a < 0 → ∀ b, b < 0 → a ≠ b → (TJ0 a).2.1 ≠ (TJ0 b).2.1 := by decide +kernel
theorem tyJ0_ok : ∀ k, k < 0 → parseFieldDescriptor (TJ0 k).2.2.1 = some (tyJ0 k) := by decide +kernel
def RL : String := "ParoleCardsLaw"
abbrev cL_admit : ByteArray := method_3_code
def yL_admit : MethodName := ⟨RL, "admit", "(LParoleCards;II[J)I"⟩
abbrev cL_course : ByteArray := method_4_code
def yL_course : MethodName := ⟨RL, "course", "(LParoleCards;III[J)I"⟩
abbrev cL_offence : ByteArray := method_5_code
def yL_offence : MethodName := ⟨RL, "offence", "(LParoleCards;II[J)I"⟩
abbrev cL_appeal : ByteArray := method_6_code
def yL_appeal : MethodName := ⟨RL, "appeal", "(LParoleCards;II[J)I"⟩
abbrev cL_release : ByteArray := method_7_code
def yL_release : MethodName := ⟨RL, "release", "(LParoleCards;I[J)I"⟩
abbrev cL_isIn : ByteArray := method_8_code
def yL_isIn : MethodName := ⟨RL, "isIn", "(LParoleCards;I[J)I"⟩
abbrev cL_regime : ByteArray := method_9_code
def yL_regime : MethodName := ⟨RL, "regime", "(LParoleCards;I[J)I"⟩
abbrev cL_papers : ByteArray := method_10_code
def yL_papers : MethodName := ⟨RL, "papers", "(LParoleCards;IZ[J)I"⟩
abbrev cL_setTools : ByteArray := method_11_code
def yL_setTools : MethodName := ⟨RL, "setTools", "(LParoleCards;II[J)I"⟩
abbrev cL_toolsOut : ByteArray := method_12_code
def yL_toolsOut : MethodName := ⟨RL, "toolsOut", "(LParoleCards;I[J)I"⟩
abbrev cL_addOrder : ByteArray := method_13_code
def yL_addOrder : MethodName := ⟨RL, "addOrder", "(LParoleCards;IIII[J)I"⟩
abbrev cL_assign : ByteArray := method_14_code
def yL_assign : MethodName := ⟨RL, "assign", "(LParoleCards;II[J)I"⟩
abbrev cL_takeOff : ByteArray := method_15_code
def yL_takeOff : MethodName := ⟨RL, "takeOff", "(LParoleCards;I[J)I"⟩
abbrev cL_orderOf : ByteArray := method_16_code
def yL_orderOf : MethodName := ⟨RL, "orderOf", "(LParoleCards;I[J)I"⟩
abbrev cL_left : ByteArray := method_17_code
def yL_left : MethodName := ⟨RL, "left", "(LParoleCards;I[J)I"⟩
abbrev cL_account : ByteArray := method_18_code
def yL_account : MethodName := ⟨RL, "account", "(LParoleCards;II[J)I"⟩
abbrev cL_buy : ByteArray := method_19_code
def yL_buy : MethodName := ⟨RL, "buy", "(LParoleCards;II[J)I"⟩
abbrev cL_limit : ByteArray := method_20_code
def yL_limit : MethodName := ⟨RL, "limit", "(LParoleCards;I[J)I"⟩
abbrev cL_paidOut : ByteArray := method_21_code
def yL_paidOut : MethodName := ⟨RL, "paidOut", "(LParoleCards;I[J)I"⟩
abbrev cL_pass : ByteArray := method_22_code
def yL_pass : MethodName := ⟨RL, "pass", "(LParoleCards;I[J)I"⟩
abbrev cL_law : ByteArray := code
def yL_law : MethodName := ⟨RL, "law", "([I)Z"⟩
def wsX0_init : List Cond := .code yX0_init cX0_init 4 none :: ([.methodLink RX0 3 objectInit, .instanceMethod objectInit, .code objectInit ⟨#[0xb1]⟩ 1 none, .fieldLink RX0 9 "ParoleCards$Offence" "day" "I", .fieldLink RX0 15 "ParoleCards$Offence" "days" "I", .fieldLink RX0 18 "ParoleCards$Offence" "loweredRegime" "Z"] ++ wsX00)
def wsX0_lowersLimitOn : List Cond := .code yX0_lowersLimitOn cX0_lowersLimitOn 2 (some .boolean) :: ([.fieldLink RX0 22 "ParoleCards$Offence" "appealed" "Z", .fieldLink RX0 9 "ParoleCards$Offence" "day" "I"] ++ wsX00)
def wsX1_init : List Cond := .code yX1_init cX1_init 6 none :: ([.methodLink RX1 1 objectInit, .instanceMethod objectInit, .code objectInit ⟨#[0xb1]⟩ 1 none, .fieldLink RX1 7 "ParoleCards$Order" "number" "I", .fieldLink RX1 13 "ParoleCards$Order" "skill" "I", .fieldLink RX1 16 "ParoleCards$Order" "tools" "LParoleCards$ToolKind;", .fieldLink RX1 20 "ParoleCards$Order" "workLeft" "I", .fieldLink RX1 23 "ParoleCards$Order" "wage" "I"] ++ wsX10)
def wsX1_isFinished : List Cond := .code yX1_isFinished cX1_isFinished 1 (some .boolean) :: ([.fieldLink RX1 20 "ParoleCards$Order" "workLeft" "I"] ++ wsX10)
def wsX1_hasFreeTool : List Cond := .code yX1_hasFreeTool cX1_hasFreeTool 1 (some .boolean) :: ([.fieldLink RX1 16 "ParoleCards$Order" "tools" "LParoleCards$ToolKind;", .fieldLink RX1 26 "ParoleCards$ToolKind" "countedOut" "I", .fieldLink RX1 31 "ParoleCards$ToolKind" "count" "I"] ++ wsX10 ++ wsX40)
def wsX3_init : List Cond := .code yX3_init cX3_init 1 none :: ([.methodLink RX3 3 objectInit, .instanceMethod objectInit, .code objectInit ⟨#[0xb1]⟩ 1 none, .arrayClass .int, .fieldLink RX3 9 "ParoleCards$Purse" "accounts" "[I"] ++ wsX30)
def wsX2_init : List Cond := .code yX2_init cX2_init 4 none :: ([.methodLink RX2 3 objectInit, .instanceMethod objectInit, .code objectInit ⟨#[0xb1]⟩ 1 none, .fieldLink RX2 9 "ParoleCards$Person" "regimeNow" "I", .classLink RX2 15 RX0, .fieldLink RX2 17 "ParoleCards$Person" "offences" "[LParoleCards$Offence;", .classLink RX2 21 RX3, .instantiable RX3 4, .initialized RX3, .fieldLink RX2 24 "ParoleCards$Person" "purse" "LParoleCards$Purse;", .fieldLink RX2 28 "ParoleCards$Person" "admittedOn" "I", .fieldLink RX2 31 "ParoleCards$Person" "term" "I", .fieldLink RX2 34 "ParoleCards$Person" "skills" "I", .instanceMethod yX3_init, .code yX3_init cX3_init 1 none, .methodLink RX3 3 objectInit, .arrayClass .int, .fieldLink RX3 9 "ParoleCards$Purse" "accounts" "[I"] ++ wsX20 ++ wsX30)
def wsX2_gainedDays : List Cond := .code yX2_gainedDays cX2_gainedDays 1 (some .int) :: ([.fieldLink RX2 37 "ParoleCards$Person" "workedDays" "I", .fieldLink RX2 40 "ParoleCards$Person" "courseDays" "I"] ++ wsX20)
def wsX2_releaseDay : List Cond := .code yX2_releaseDay cX2_releaseDay 1 (some .int) :: ([.fieldLink RX2 43 "ParoleCards$Person" "released" "Z", .fieldLink RX2 47 "ParoleCards$Person" "releasedOn" "I", .fieldLink RX2 28 "ParoleCards$Person" "admittedOn" "I", .fieldLink RX2 31 "ParoleCards$Person" "term" "I", .methodLink RX2 54 Lib.Math.min.name, .static Lib.Math.min.name, .initialized "java/lang/Math", .code Lib.Math.min.name Lib.Math.min.code 2 (some .int), .fieldLink RX2 60 "ParoleCards$Person" "lostDays" "I", .methodLink RX2 50 yX2_gainedDays, .instanceMethod yX2_gainedDays, .selects RX2 yX2_gainedDays yX2_gainedDays, .initialized RX2, .code yX2_gainedDays cX2_gainedDays 1 (some .int), .fieldLink RX2 37 "ParoleCards$Person" "workedDays" "I", .fieldLink RX2 40 "ParoleCards$Person" "courseDays" "I"] ++ wsX20)
def wsX2_hasSkill : List Cond := .code yX2_hasSkill cX2_hasSkill 2 (some .boolean) :: ([.fieldLink RX2 34 "ParoleCards$Person" "skills" "I"] ++ wsX20)
def wsX2_hasRoomForPaper : List Cond := .code yX2_hasRoomForPaper cX2_hasRoomForPaper 1 (some .boolean) :: ([.fieldLink RX2 63 "ParoleCards$Person" "courseCount" "I", .fieldLink RX2 66 "ParoleCards$Person" "offenceCount" "I"] ++ wsX20)
def wsX2_raiseRegime : List Cond := .code yX2_raiseRegime cX2_raiseRegime 1 none :: ([.fieldLink RX2 9 "ParoleCards$Person" "regimeNow" "I", .methodLink RX2 54 Lib.Math.min.name, .static Lib.Math.min.name, .initialized "java/lang/Math", .code Lib.Math.min.name Lib.Math.min.code 2 (some .int)] ++ wsX20)
def wsX2_enterCourse : List Cond := .code yX2_enterCourse cX2_enterCourse 3 none :: ([.classLink RX2 73 "java/lang/IllegalStateException", .initialized "java/lang/IllegalStateException", .fieldLink RX2 34 "ParoleCards$Person" "skills" "I", .fieldLink RX2 63 "ParoleCards$Person" "courseCount" "I", .fieldLink RX2 40 "ParoleCards$Person" "courseDays" "I", .methodLink RX2 69 yX2_hasRoomForPaper, .instanceMethod yX2_hasRoomForPaper, .selects RX2 yX2_hasRoomForPaper yX2_hasRoomForPaper, .initialized RX2, .code yX2_hasRoomForPaper cX2_hasRoomForPaper 1 (some .boolean), .fieldLink RX2 66 "ParoleCards$Person" "offenceCount" "I", .methodLink RX2 80 yX2_raiseRegime, .instanceMethod yX2_raiseRegime, .selects RX2 yX2_raiseRegime yX2_raiseRegime, .code yX2_raiseRegime cX2_raiseRegime 1 none, .fieldLink RX2 9 "ParoleCards$Person" "regimeNow" "I", .methodLink RX2 54 Lib.Math.min.name, .static Lib.Math.min.name, .initialized "java/lang/Math", .code Lib.Math.min.name Lib.Math.min.code 2 (some .int)] ++ wsX20 ++ (vx_atS RX2 77 "java/lang/IllegalStateException" ["java/lang/RuntimeException", "java/lang/Exception"]).filter goodWord)
def wsX2_leaveOrder : List Cond := .code yX2_leaveOrder cX2_leaveOrder 2 none :: ([.fieldLink RX2 98 "ParoleCards$Person" "order" "LParoleCards$Order;", .fieldLink RX2 102 "ParoleCards$Order" "peopleOnIt" "I", .fieldLink RX2 107 "ParoleCards$Order" "tools" "LParoleCards$ToolKind;", .fieldLink RX2 111 "ParoleCards$ToolKind" "countedOut" "I"] ++ wsX20 ++ wsX10 ++ wsX40)
def wsX2_enterOffence_r1 : List Cond := [Cond.classLink RX2 73 "java/lang/IllegalStateException", Cond.initialized "java/lang/IllegalStateException", Cond.fieldLink RX2 66 "ParoleCards$Person" "offenceCount" "I", Cond.fieldLink RX2 17 "ParoleCards$Person" "offences" "[LParoleCards$Offence;", Cond.fieldLink RX2 9 "ParoleCards$Person" "regimeNow" "I", Cond.classLink RX2 15 RX0, Cond.instantiable RX0 4, Cond.initialized RX0, Cond.fieldLink RX2 60 "ParoleCards$Person" "lostDays" "I", Cond.methodLink RX2 69 yX2_hasRoomForPaper, Cond.instanceMethod yX2_hasRoomForPaper, Cond.selects RX2 yX2_hasRoomForPaper yX2_hasRoomForPaper, Cond.initialized RX2, Cond.code yX2_hasRoomForPaper cX2_hasRoomForPaper 1 (some .boolean), Cond.fieldLink RX2 63 "ParoleCards$Person" "courseCount" "I", Cond.methodLink RX2 83 yX0_init, Cond.instanceMethod yX0_init, Cond.code yX0_init cX0_init 4 none, Cond.methodLink RX0 3 objectInit, Cond.instanceMethod objectInit, Cond.code objectInit ⟨#[0xb1]⟩ 1 none, Cond.fieldLink RX0 9 "ParoleCards$Offence" "day" "I", Cond.fieldLink RX0 15 "ParoleCards$Offence" "days" "I", Cond.fieldLink RX0 18 "ParoleCards$Offence" "loweredRegime" "Z"]
def wsX2_enterOffence_r2 : List Cond := [Cond.methodLink RX2 86 yX2_leaveOrder, Cond.instanceMethod yX2_leaveOrder, Cond.selects RX2 yX2_leaveOrder yX2_leaveOrder, Cond.code yX2_leaveOrder cX2_leaveOrder 2 none, Cond.fieldLink RX2 98 "ParoleCards$Person" "order" "LParoleCards$Order;", Cond.fieldLink RX2 102 "ParoleCards$Order" "peopleOnIt" "I", Cond.fieldLink RX2 107 "ParoleCards$Order" "tools" "LParoleCards$ToolKind;", Cond.fieldLink RX2 111 "ParoleCards$ToolKind" "countedOut" "I"]
def wsX2_enterOffence : List Cond := .code yX2_enterOffence cX2_enterOffence 5 (some .int) :: ((wsX2_enterOffence_r1 ++ wsX2_enterOffence_r2) ++ wsX20 ++ wsX00 ++ wsX10 ++ wsX40 ++ (vx_atS RX2 77 "java/lang/IllegalStateException" ["java/lang/RuntimeException", "java/lang/Exception"]).filter goodWord)
def wsX2_appealOffence : List Cond := .code yX2_appealOffence cX2_appealOffence 2 none :: ([.fieldLink RX2 89 "ParoleCards$Offence" "appealed" "Z", .fieldLink RX2 60 "ParoleCards$Person" "lostDays" "I", .fieldLink RX2 92 "ParoleCards$Offence" "days" "I", .fieldLink RX2 95 "ParoleCards$Offence" "loweredRegime" "Z", .methodLink RX2 80 yX2_raiseRegime, .instanceMethod yX2_raiseRegime, .selects RX2 yX2_raiseRegime yX2_raiseRegime, .initialized RX2, .code yX2_raiseRegime cX2_raiseRegime 1 none, .fieldLink RX2 9 "ParoleCards$Person" "regimeNow" "I", .methodLink RX2 54 Lib.Math.min.name, .static Lib.Math.min.name, .initialized "java/lang/Math", .code Lib.Math.min.name Lib.Math.min.code 2 (some .int)] ++ wsX00 ++ wsX20)
def wsX2_joinOrder : List Cond := .code yX2_joinOrder cX2_joinOrder 2 none :: ([.fieldLink RX2 98 "ParoleCards$Person" "order" "LParoleCards$Order;", .fieldLink RX2 102 "ParoleCards$Order" "peopleOnIt" "I", .fieldLink RX2 107 "ParoleCards$Order" "tools" "LParoleCards$ToolKind;", .fieldLink RX2 111 "ParoleCards$ToolKind" "countedOut" "I"] ++ wsX20 ++ wsX10 ++ wsX40)
def wsX2_leaveFinishedOrder : List Cond := .code yX2_leaveFinishedOrder cX2_leaveFinishedOrder 2 none :: ([.fieldLink RX2 98 "ParoleCards$Person" "order" "LParoleCards$Order;", .methodLink RX2 116 yX1_isFinished, .instanceMethod yX1_isFinished, .selects RX1 yX1_isFinished yX1_isFinished, .initialized RX1, .code yX1_isFinished cX1_isFinished 1 (some .boolean), .fieldLink RX1 20 "ParoleCards$Order" "workLeft" "I", .methodLink RX2 86 yX2_leaveOrder, .instanceMethod yX2_leaveOrder, .selects RX2 yX2_leaveOrder yX2_leaveOrder, .initialized RX2, .code yX2_leaveOrder cX2_leaveOrder 2 none, .fieldLink RX2 102 "ParoleCards$Order" "peopleOnIt" "I", .fieldLink RX2 107 "ParoleCards$Order" "tools" "LParoleCards$ToolKind;", .fieldLink RX2 111 "ParoleCards$ToolKind" "countedOut" "I"] ++ wsX20 ++ wsX10 ++ wsX40)
def wsX3_partWage : List Cond := .code yX3_partWage cX3_partWage 5 none :: ([.fieldLink RX3 9 "ParoleCards$Purse" "accounts" "[I"] ++ wsX30)
def wsX2_workOneDay : List Cond := .code yX2_workOneDay cX2_workOneDay 2 none :: ([.fieldLink RX2 98 "ParoleCards$Person" "order" "LParoleCards$Order;", .fieldLink RX2 119 "ParoleCards$Order" "workLeft" "I", .fieldLink RX2 37 "ParoleCards$Person" "workedDays" "I", .fieldLink RX2 24 "ParoleCards$Person" "purse" "LParoleCards$Purse;", .fieldLink RX2 122 "ParoleCards$Order" "wage" "I", .methodLink RX2 116 yX1_isFinished, .instanceMethod yX1_isFinished, .selects RX1 yX1_isFinished yX1_isFinished, .initialized RX1, .code yX1_isFinished cX1_isFinished 1 (some .boolean), .fieldLink RX1 20 "ParoleCards$Order" "workLeft" "I", .methodLink RX2 125 yX3_partWage, .instanceMethod yX3_partWage, .selects RX3 yX3_partWage yX3_partWage, .initialized RX3, .code yX3_partWage cX3_partWage 5 none, .fieldLink RX3 9 "ParoleCards$Purse" "accounts" "[I"] ++ wsX20 ++ wsX10 ++ wsX30)
def wsX2_limitOfSpan : List Cond := .code yX2_limitOfSpan cX2_limitOfSpan 7 (some .int) :: ([.fieldLink RX2 9 "ParoleCards$Person" "regimeNow" "I", .fieldLink RX2 17 "ParoleCards$Person" "offences" "[LParoleCards$Offence;", .methodLink RX2 133 Lib.Math.max.name, .static Lib.Math.max.name, .initialized "java/lang/Math", .code Lib.Math.max.name Lib.Math.max.code 2 (some .int), .methodLink RX2 129 yX0_lowersLimitOn, .instanceMethod yX0_lowersLimitOn, .selects RX0 yX0_lowersLimitOn yX0_lowersLimitOn, .initialized RX0, .code yX0_lowersLimitOn cX0_lowersLimitOn 2 (some .boolean), .fieldLink RX0 22 "ParoleCards$Offence" "appealed" "Z", .fieldLink RX0 9 "ParoleCards$Offence" "day" "I"] ++ wsX20 ++ wsX00)
def wsX3_boughtInSpan : List Cond := .code yX3_boughtInSpan cX3_boughtInSpan 2 (some .int) :: ([.fieldLink RX3 15 "ParoleCards$Purse" "lastSpan" "I", .fieldLink RX3 19 "ParoleCards$Purse" "boughtInLastSpan" "I"] ++ wsX30)
def wsX2_mayStillBuy_r1 : List Cond := [Cond.fieldLink RX2 43 "ParoleCards$Person" "released" "Z", Cond.fieldLink RX2 24 "ParoleCards$Person" "purse" "LParoleCards$Purse;", Cond.methodLink RX2 133 Lib.Math.max.name, Cond.static Lib.Math.max.name, Cond.initialized "java/lang/Math", Cond.code Lib.Math.max.name Lib.Math.max.code 2 (some .int), Cond.methodLink RX2 136 yX2_limitOfSpan, Cond.instanceMethod yX2_limitOfSpan, Cond.selects RX2 yX2_limitOfSpan yX2_limitOfSpan, Cond.initialized RX2, Cond.code yX2_limitOfSpan cX2_limitOfSpan 7 (some .int), Cond.fieldLink RX2 9 "ParoleCards$Person" "regimeNow" "I", Cond.fieldLink RX2 17 "ParoleCards$Person" "offences" "[LParoleCards$Offence;", Cond.methodLink RX2 129 yX0_lowersLimitOn, Cond.instanceMethod yX0_lowersLimitOn, Cond.selects RX0 yX0_lowersLimitOn yX0_lowersLimitOn, Cond.initialized RX0, Cond.code yX0_lowersLimitOn cX0_lowersLimitOn 2 (some .boolean), Cond.fieldLink RX0 22 "ParoleCards$Offence" "appealed" "Z", Cond.fieldLink RX0 9 "ParoleCards$Offence" "day" "I", Cond.methodLink RX2 140 yX3_boughtInSpan, Cond.instanceMethod yX3_boughtInSpan, Cond.selects RX3 yX3_boughtInSpan yX3_boughtInSpan, Cond.initialized RX3]
def wsX2_mayStillBuy_r2 : List Cond := [Cond.code yX3_boughtInSpan cX3_boughtInSpan 2 (some .int), Cond.fieldLink RX3 15 "ParoleCards$Purse" "lastSpan" "I", Cond.fieldLink RX3 19 "ParoleCards$Purse" "boughtInLastSpan" "I"]
def wsX2_mayStillBuy : List Cond := .code yX2_mayStillBuy cX2_mayStillBuy 2 (some .int) :: ((wsX2_mayStillBuy_r1 ++ wsX2_mayStillBuy_r2) ++ wsX20 ++ wsX00 ++ wsX30)
def wsX2_isDue : List Cond := .code yX2_isDue cX2_isDue 2 (some .boolean) :: ([.fieldLink RX2 43 "ParoleCards$Person" "released" "Z", .methodLink RX2 143 yX2_releaseDay, .instanceMethod yX2_releaseDay, .selects RX2 yX2_releaseDay yX2_releaseDay, .initialized RX2, .code yX2_releaseDay cX2_releaseDay 1 (some .int), .fieldLink RX2 47 "ParoleCards$Person" "releasedOn" "I", .fieldLink RX2 28 "ParoleCards$Person" "admittedOn" "I", .fieldLink RX2 31 "ParoleCards$Person" "term" "I", .methodLink RX2 54 Lib.Math.min.name, .static Lib.Math.min.name, .initialized "java/lang/Math", .code Lib.Math.min.name Lib.Math.min.code 2 (some .int), .fieldLink RX2 60 "ParoleCards$Person" "lostDays" "I", .methodLink RX2 50 yX2_gainedDays, .instanceMethod yX2_gainedDays, .selects RX2 yX2_gainedDays yX2_gainedDays, .code yX2_gainedDays cX2_gainedDays 1 (some .int), .fieldLink RX2 37 "ParoleCards$Person" "workedDays" "I", .fieldLink RX2 40 "ParoleCards$Person" "courseDays" "I"] ++ wsX20)
def wsX3_payOut : List Cond := .code yX3_payOut cX3_payOut 1 none :: ([.fieldLink RX3 9 "ParoleCards$Purse" "accounts" "[I", .fieldLink RX3 26 "ParoleCards$Purse" "paidOutSum" "I"] ++ wsX30)
def wsX2_letGo : List Cond := .code yX2_letGo cX2_letGo 2 none :: ([.fieldLink RX2 24 "ParoleCards$Person" "purse" "LParoleCards$Purse;", .fieldLink RX2 47 "ParoleCards$Person" "releasedOn" "I", .fieldLink RX2 43 "ParoleCards$Person" "released" "Z", .methodLink RX2 86 yX2_leaveOrder, .instanceMethod yX2_leaveOrder, .selects RX2 yX2_leaveOrder yX2_leaveOrder, .initialized RX2, .code yX2_leaveOrder cX2_leaveOrder 2 none, .fieldLink RX2 98 "ParoleCards$Person" "order" "LParoleCards$Order;", .fieldLink RX2 102 "ParoleCards$Order" "peopleOnIt" "I", .fieldLink RX2 107 "ParoleCards$Order" "tools" "LParoleCards$ToolKind;", .fieldLink RX2 111 "ParoleCards$ToolKind" "countedOut" "I", .methodLink RX2 146 yX3_payOut, .instanceMethod yX3_payOut, .selects RX3 yX3_payOut yX3_payOut, .initialized RX3, .code yX3_payOut cX3_payOut 1 none, .fieldLink RX3 9 "ParoleCards$Purse" "accounts" "[I", .fieldLink RX3 26 "ParoleCards$Purse" "paidOutSum" "I"] ++ wsX20 ++ wsX10 ++ wsX40 ++ wsX30)
def wsX3_spend : List Cond := .code yX3_spend cX3_spend 3 none :: ([.fieldLink RX3 19 "ParoleCards$Purse" "boughtInLastSpan" "I", .fieldLink RX3 15 "ParoleCards$Purse" "lastSpan" "I", .fieldLink RX3 9 "ParoleCards$Purse" "accounts" "[I", .methodLink RX3 22 yX3_boughtInSpan, .instanceMethod yX3_boughtInSpan, .selects RX3 yX3_boughtInSpan yX3_boughtInSpan, .initialized RX3, .code yX3_boughtInSpan cX3_boughtInSpan 2 (some .int)] ++ wsX30)
def wsX4_init : List Cond := .code yX4_init cX4_init 1 none :: ([.methodLink RX4 1 objectInit, .instanceMethod objectInit, .code objectInit ⟨#[0xb1]⟩ 1 none])
def wsX5_init : List Cond := .code yX5_init cX5_init 2 none :: ([.methodLink RX5 1 objectInit, .instanceMethod objectInit, .code objectInit ⟨#[0xb1]⟩ 1 none, .classLink RX5 9 RX2, .fieldLink RX5 11 "ParoleCards" "people" "[LParoleCards$Person;", .classLink RX5 15 RX1, .fieldLink RX5 17 "ParoleCards" "orders" "[LParoleCards$Order;", .classLink RX5 21 RX4, .fieldLink RX5 23 "ParoleCards" "toolKinds" "[LParoleCards$ToolKind;", .instantiable RX4 2, .initialized RX4, .instanceMethod yX4_init, .code yX4_init cX4_init 1 none, .methodLink RX4 1 objectInit] ++ wsX50 ++ wsX40)
def wsX5_checkRange : List Cond := .code yX5_checkRange cX5_checkRange 3 none :: ([.classLink RX5 227 "java/lang/IllegalArgumentException", .initialized "java/lang/IllegalArgumentException"] ++ (vx_atS RX5 231 "java/lang/IllegalArgumentException" ["java/lang/RuntimeException", "java/lang/Exception"]).filter goodWord)
def wsX5_admit_r1 : List Cond := [Cond.classLink RX5 36 "java/lang/IllegalStateException", Cond.initialized "java/lang/IllegalStateException", Cond.fieldLink RX5 32 "ParoleCards" "personCount" "I", Cond.fieldLink RX5 11 "ParoleCards" "people" "[LParoleCards$Person;", Cond.classLink RX5 9 RX2, Cond.instantiable RX2 14, Cond.initialized RX2, Cond.fieldLink RX5 43 "ParoleCards" "today" "I", Cond.methodLink RX5 28 yX5_checkRange, Cond.static yX5_checkRange, Cond.initialized RX5, Cond.code yX5_checkRange cX5_checkRange 3 none, Cond.classLink RX5 227 "java/lang/IllegalArgumentException", Cond.initialized "java/lang/IllegalArgumentException", Cond.methodLink RX5 46 yX2_init, Cond.instanceMethod yX2_init, Cond.code yX2_init cX2_init 4 none, Cond.methodLink RX2 3 objectInit, Cond.instanceMethod objectInit, Cond.code objectInit ⟨#[0xb1]⟩ 1 none, Cond.fieldLink RX2 9 "ParoleCards$Person" "regimeNow" "I", Cond.classLink RX2 15 RX0, Cond.fieldLink RX2 17 "ParoleCards$Person" "offences" "[LParoleCards$Offence;", Cond.classLink RX2 21 RX3]
def wsX5_admit_r2 : List Cond := [Cond.instantiable RX3 4, Cond.initialized RX3, Cond.fieldLink RX2 24 "ParoleCards$Person" "purse" "LParoleCards$Purse;", Cond.fieldLink RX2 28 "ParoleCards$Person" "admittedOn" "I", Cond.fieldLink RX2 31 "ParoleCards$Person" "term" "I", Cond.fieldLink RX2 34 "ParoleCards$Person" "skills" "I", Cond.instanceMethod yX3_init, Cond.code yX3_init cX3_init 1 none, Cond.methodLink RX3 3 objectInit, Cond.arrayClass .int, Cond.fieldLink RX3 9 "ParoleCards$Purse" "accounts" "[I"]
def wsX5_admit : List Cond := .code yX5_admit cX5_admit 4 (some .int) :: ((wsX5_admit_r1 ++ wsX5_admit_r2) ++ wsX50 ++ wsX20 ++ wsX30 ++ (vx_atS RX5 40 "java/lang/IllegalStateException" ["java/lang/RuntimeException", "java/lang/Exception"]).filter goodWord ++ (vx_atS RX5 231 "java/lang/IllegalArgumentException" ["java/lang/RuntimeException", "java/lang/Exception"]).filter goodWord)
def wsX5_findPerson : List Cond := .code yX5_findPerson cX5_findPerson 3 (some (.object "ParoleCards$Person")) :: ([.classLink RX5 176 "java/lang/IndexOutOfBoundsException", .initialized "java/lang/IndexOutOfBoundsException", .fieldLink RX5 11 "ParoleCards" "people" "[LParoleCards$Person;"] ++ wsX50 ++ (vx_atS RX5 180 "java/lang/IndexOutOfBoundsException" ["java/lang/RuntimeException", "java/lang/Exception"]).filter goodWord)
def wsX5_checkSkill : List Cond := .code yX5_checkSkill cX5_checkSkill 1 none :: ([.classLink RX5 176 "java/lang/IndexOutOfBoundsException", .initialized "java/lang/IndexOutOfBoundsException"] ++ (vx_atS RX5 180 "java/lang/IndexOutOfBoundsException" ["java/lang/RuntimeException", "java/lang/Exception"]).filter goodWord)
def wsX5_checkIn : List Cond := .code yX5_checkIn cX5_checkIn 1 none :: ([.classLink RX5 36 "java/lang/IllegalStateException", .initialized "java/lang/IllegalStateException", .fieldLink RX5 88 "ParoleCards$Person" "released" "Z"] ++ wsX20 ++ (vx_atS RX5 40 "java/lang/IllegalStateException" ["java/lang/RuntimeException", "java/lang/Exception"]).filter goodWord)
def wsX5_course_r1 : List Cond := [Cond.methodLink RX5 48 yX5_findPerson, Cond.instanceMethod yX5_findPerson, Cond.selects RX5 yX5_findPerson yX5_findPerson, Cond.initialized RX5, Cond.code yX5_findPerson cX5_findPerson 3 (some (.object "ParoleCards$Person")), Cond.classLink RX5 176 "java/lang/IndexOutOfBoundsException", Cond.initialized "java/lang/IndexOutOfBoundsException", Cond.fieldLink RX5 11 "ParoleCards" "people" "[LParoleCards$Person;", Cond.methodLink RX5 52 yX5_checkSkill, Cond.static yX5_checkSkill, Cond.code yX5_checkSkill cX5_checkSkill 1 none, Cond.methodLink RX5 28 yX5_checkRange, Cond.static yX5_checkRange, Cond.code yX5_checkRange cX5_checkRange 3 none, Cond.classLink RX5 227 "java/lang/IllegalArgumentException", Cond.initialized "java/lang/IllegalArgumentException", Cond.methodLink RX5 56 yX5_checkIn, Cond.static yX5_checkIn, Cond.code yX5_checkIn cX5_checkIn 1 none, Cond.classLink RX5 36 "java/lang/IllegalStateException", Cond.initialized "java/lang/IllegalStateException", Cond.fieldLink RX5 88 "ParoleCards$Person" "released" "Z", Cond.methodLink RX5 60 yX2_enterCourse, Cond.instanceMethod yX2_enterCourse]
def wsX5_course_r2 : List Cond := [Cond.selects RX2 yX2_enterCourse yX2_enterCourse, Cond.initialized RX2, Cond.code yX2_enterCourse cX2_enterCourse 3 none, Cond.classLink RX2 73 "java/lang/IllegalStateException", Cond.fieldLink RX2 34 "ParoleCards$Person" "skills" "I", Cond.fieldLink RX2 63 "ParoleCards$Person" "courseCount" "I", Cond.fieldLink RX2 40 "ParoleCards$Person" "courseDays" "I", Cond.methodLink RX2 69 yX2_hasRoomForPaper, Cond.instanceMethod yX2_hasRoomForPaper, Cond.selects RX2 yX2_hasRoomForPaper yX2_hasRoomForPaper, Cond.code yX2_hasRoomForPaper cX2_hasRoomForPaper 1 (some .boolean), Cond.fieldLink RX2 66 "ParoleCards$Person" "offenceCount" "I", Cond.methodLink RX2 80 yX2_raiseRegime, Cond.instanceMethod yX2_raiseRegime, Cond.selects RX2 yX2_raiseRegime yX2_raiseRegime, Cond.code yX2_raiseRegime cX2_raiseRegime 1 none, Cond.fieldLink RX2 9 "ParoleCards$Person" "regimeNow" "I", Cond.methodLink RX2 54 Lib.Math.min.name, Cond.static Lib.Math.min.name, Cond.initialized "java/lang/Math", Cond.code Lib.Math.min.name Lib.Math.min.code 2 (some .int), Cond.methodLink RX5 64 yX2_releaseDay, Cond.instanceMethod yX2_releaseDay, Cond.selects RX2 yX2_releaseDay yX2_releaseDay]
def wsX5_course_r3 : List Cond := [Cond.code yX2_releaseDay cX2_releaseDay 1 (some .int), Cond.fieldLink RX2 43 "ParoleCards$Person" "released" "Z", Cond.fieldLink RX2 47 "ParoleCards$Person" "releasedOn" "I", Cond.fieldLink RX2 28 "ParoleCards$Person" "admittedOn" "I", Cond.fieldLink RX2 31 "ParoleCards$Person" "term" "I", Cond.fieldLink RX2 60 "ParoleCards$Person" "lostDays" "I", Cond.methodLink RX2 50 yX2_gainedDays, Cond.instanceMethod yX2_gainedDays, Cond.selects RX2 yX2_gainedDays yX2_gainedDays, Cond.code yX2_gainedDays cX2_gainedDays 1 (some .int), Cond.fieldLink RX2 37 "ParoleCards$Person" "workedDays" "I"]
def wsX5_course : List Cond := .code yX5_course cX5_course 5 (some .int) :: ((wsX5_course_r1 ++ (wsX5_course_r2 ++ wsX5_course_r3)) ++ wsX50 ++ wsX20 ++ (vx_atS RX5 180 "java/lang/IndexOutOfBoundsException" ["java/lang/RuntimeException", "java/lang/Exception"]).filter goodWord ++ (vx_atS RX5 231 "java/lang/IllegalArgumentException" ["java/lang/RuntimeException", "java/lang/Exception"]).filter goodWord ++ (vx_atS RX5 40 "java/lang/IllegalStateException" ["java/lang/RuntimeException", "java/lang/Exception"]).filter goodWord ++ (vx_atS RX2 77 "java/lang/IllegalStateException" ["java/lang/RuntimeException", "java/lang/Exception"]).filter goodWord)
def wsX5_offence_r1 : List Cond := [Cond.fieldLink RX5 43 "ParoleCards" "today" "I", Cond.methodLink RX5 48 yX5_findPerson, Cond.instanceMethod yX5_findPerson, Cond.selects RX5 yX5_findPerson yX5_findPerson, Cond.initialized RX5, Cond.code yX5_findPerson cX5_findPerson 3 (some (.object "ParoleCards$Person")), Cond.classLink RX5 176 "java/lang/IndexOutOfBoundsException", Cond.initialized "java/lang/IndexOutOfBoundsException", Cond.fieldLink RX5 11 "ParoleCards" "people" "[LParoleCards$Person;", Cond.methodLink RX5 28 yX5_checkRange, Cond.static yX5_checkRange, Cond.code yX5_checkRange cX5_checkRange 3 none, Cond.classLink RX5 227 "java/lang/IllegalArgumentException", Cond.initialized "java/lang/IllegalArgumentException", Cond.methodLink RX5 56 yX5_checkIn, Cond.static yX5_checkIn, Cond.code yX5_checkIn cX5_checkIn 1 none, Cond.classLink RX5 36 "java/lang/IllegalStateException", Cond.initialized "java/lang/IllegalStateException", Cond.fieldLink RX5 88 "ParoleCards$Person" "released" "Z", Cond.methodLink RX5 68 yX2_enterOffence, Cond.instanceMethod yX2_enterOffence, Cond.selects RX2 yX2_enterOffence yX2_enterOffence, Cond.initialized RX2]
def wsX5_offence_r2 : List Cond := [Cond.code yX2_enterOffence cX2_enterOffence 5 (some .int), Cond.classLink RX2 73 "java/lang/IllegalStateException", Cond.fieldLink RX2 66 "ParoleCards$Person" "offenceCount" "I", Cond.fieldLink RX2 17 "ParoleCards$Person" "offences" "[LParoleCards$Offence;", Cond.fieldLink RX2 9 "ParoleCards$Person" "regimeNow" "I", Cond.classLink RX2 15 RX0, Cond.instantiable RX0 4, Cond.initialized RX0, Cond.fieldLink RX2 60 "ParoleCards$Person" "lostDays" "I", Cond.methodLink RX2 69 yX2_hasRoomForPaper, Cond.instanceMethod yX2_hasRoomForPaper, Cond.selects RX2 yX2_hasRoomForPaper yX2_hasRoomForPaper, Cond.code yX2_hasRoomForPaper cX2_hasRoomForPaper 1 (some .boolean), Cond.fieldLink RX2 63 "ParoleCards$Person" "courseCount" "I", Cond.methodLink RX2 83 yX0_init, Cond.instanceMethod yX0_init, Cond.code yX0_init cX0_init 4 none, Cond.methodLink RX0 3 objectInit, Cond.instanceMethod objectInit, Cond.code objectInit ⟨#[0xb1]⟩ 1 none, Cond.fieldLink RX0 9 "ParoleCards$Offence" "day" "I", Cond.fieldLink RX0 15 "ParoleCards$Offence" "days" "I", Cond.fieldLink RX0 18 "ParoleCards$Offence" "loweredRegime" "Z", Cond.methodLink RX2 86 yX2_leaveOrder]
def wsX5_offence_r3 : List Cond := [Cond.instanceMethod yX2_leaveOrder, Cond.selects RX2 yX2_leaveOrder yX2_leaveOrder, Cond.code yX2_leaveOrder cX2_leaveOrder 2 none, Cond.fieldLink RX2 98 "ParoleCards$Person" "order" "LParoleCards$Order;", Cond.fieldLink RX2 102 "ParoleCards$Order" "peopleOnIt" "I", Cond.fieldLink RX2 107 "ParoleCards$Order" "tools" "LParoleCards$ToolKind;", Cond.fieldLink RX2 111 "ParoleCards$ToolKind" "countedOut" "I"]
def wsX5_offence : List Cond := .code yX5_offence cX5_offence 4 (some .int) :: ((wsX5_offence_r1 ++ (wsX5_offence_r2 ++ wsX5_offence_r3)) ++ wsX50 ++ wsX20 ++ wsX00 ++ wsX10 ++ wsX40 ++ (vx_atS RX5 180 "java/lang/IndexOutOfBoundsException" ["java/lang/RuntimeException", "java/lang/Exception"]).filter goodWord ++ (vx_atS RX5 231 "java/lang/IllegalArgumentException" ["java/lang/RuntimeException", "java/lang/Exception"]).filter goodWord ++ (vx_atS RX5 40 "java/lang/IllegalStateException" ["java/lang/RuntimeException", "java/lang/Exception"]).filter goodWord ++ (vx_atS RX2 77 "java/lang/IllegalStateException" ["java/lang/RuntimeException", "java/lang/Exception"]).filter goodWord)
def wsX5_findOffence : List Cond := .code yX5_findOffence cX5_findOffence 3 (some (.object "ParoleCards$Offence")) :: ([.classLink RX5 176 "java/lang/IndexOutOfBoundsException", .initialized "java/lang/IndexOutOfBoundsException", .fieldLink RX5 215 "ParoleCards$Person" "offences" "[LParoleCards$Offence;"] ++ wsX20 ++ (vx_atS RX5 180 "java/lang/IndexOutOfBoundsException" ["java/lang/RuntimeException", "java/lang/Exception"]).filter goodWord)
def wsX5_appeal_r1 : List Cond := [Cond.classLink RX5 36 "java/lang/IllegalStateException", Cond.initialized "java/lang/IllegalStateException", Cond.fieldLink RX5 76 "ParoleCards$Offence" "appealed" "Z", Cond.methodLink RX5 48 yX5_findPerson, Cond.instanceMethod yX5_findPerson, Cond.selects RX5 yX5_findPerson yX5_findPerson, Cond.initialized RX5, Cond.code yX5_findPerson cX5_findPerson 3 (some (.object "ParoleCards$Person")), Cond.classLink RX5 176 "java/lang/IndexOutOfBoundsException", Cond.initialized "java/lang/IndexOutOfBoundsException", Cond.fieldLink RX5 11 "ParoleCards" "people" "[LParoleCards$Person;", Cond.methodLink RX5 72 yX5_findOffence, Cond.static yX5_findOffence, Cond.code yX5_findOffence cX5_findOffence 3 (some (.object "ParoleCards$Offence")), Cond.fieldLink RX5 215 "ParoleCards$Person" "offences" "[LParoleCards$Offence;", Cond.methodLink RX5 56 yX5_checkIn, Cond.static yX5_checkIn, Cond.code yX5_checkIn cX5_checkIn 1 none, Cond.fieldLink RX5 88 "ParoleCards$Person" "released" "Z", Cond.methodLink RX5 84 yX2_appealOffence, Cond.instanceMethod yX2_appealOffence, Cond.selects RX2 yX2_appealOffence yX2_appealOffence, Cond.initialized RX2, Cond.code yX2_appealOffence cX2_appealOffence 2 none]
def wsX5_appeal_r2 : List Cond := [Cond.fieldLink RX2 89 "ParoleCards$Offence" "appealed" "Z", Cond.fieldLink RX2 60 "ParoleCards$Person" "lostDays" "I", Cond.fieldLink RX2 92 "ParoleCards$Offence" "days" "I", Cond.fieldLink RX2 95 "ParoleCards$Offence" "loweredRegime" "Z", Cond.methodLink RX2 80 yX2_raiseRegime, Cond.instanceMethod yX2_raiseRegime, Cond.selects RX2 yX2_raiseRegime yX2_raiseRegime, Cond.code yX2_raiseRegime cX2_raiseRegime 1 none, Cond.fieldLink RX2 9 "ParoleCards$Person" "regimeNow" "I", Cond.methodLink RX2 54 Lib.Math.min.name, Cond.static Lib.Math.min.name, Cond.initialized "java/lang/Math", Cond.code Lib.Math.min.name Lib.Math.min.code 2 (some .int), Cond.methodLink RX5 64 yX2_releaseDay, Cond.instanceMethod yX2_releaseDay, Cond.selects RX2 yX2_releaseDay yX2_releaseDay, Cond.code yX2_releaseDay cX2_releaseDay 1 (some .int), Cond.fieldLink RX2 43 "ParoleCards$Person" "released" "Z", Cond.fieldLink RX2 47 "ParoleCards$Person" "releasedOn" "I", Cond.fieldLink RX2 28 "ParoleCards$Person" "admittedOn" "I", Cond.fieldLink RX2 31 "ParoleCards$Person" "term" "I", Cond.methodLink RX2 50 yX2_gainedDays, Cond.instanceMethod yX2_gainedDays, Cond.selects RX2 yX2_gainedDays yX2_gainedDays]
def wsX5_appeal_r3 : List Cond := [Cond.code yX2_gainedDays cX2_gainedDays 1 (some .int), Cond.fieldLink RX2 37 "ParoleCards$Person" "workedDays" "I", Cond.fieldLink RX2 40 "ParoleCards$Person" "courseDays" "I"]
def wsX5_appeal : List Cond := .code yX5_appeal cX5_appeal 5 (some .int) :: ((wsX5_appeal_r1 ++ (wsX5_appeal_r2 ++ wsX5_appeal_r3)) ++ wsX00 ++ wsX50 ++ wsX20 ++ (vx_atS RX5 40 "java/lang/IllegalStateException" ["java/lang/RuntimeException", "java/lang/Exception"]).filter goodWord ++ (vx_atS RX5 180 "java/lang/IndexOutOfBoundsException" ["java/lang/RuntimeException", "java/lang/Exception"]).filter goodWord)
def wsX5_release_r1 : List Cond := [Cond.methodLink RX5 48 yX5_findPerson, Cond.instanceMethod yX5_findPerson, Cond.selects RX5 yX5_findPerson yX5_findPerson, Cond.initialized RX5, Cond.code yX5_findPerson cX5_findPerson 3 (some (.object "ParoleCards$Person")), Cond.classLink RX5 176 "java/lang/IndexOutOfBoundsException", Cond.initialized "java/lang/IndexOutOfBoundsException", Cond.fieldLink RX5 11 "ParoleCards" "people" "[LParoleCards$Person;", Cond.methodLink RX5 64 yX2_releaseDay, Cond.instanceMethod yX2_releaseDay, Cond.selects RX2 yX2_releaseDay yX2_releaseDay, Cond.initialized RX2, Cond.code yX2_releaseDay cX2_releaseDay 1 (some .int), Cond.fieldLink RX2 43 "ParoleCards$Person" "released" "Z", Cond.fieldLink RX2 47 "ParoleCards$Person" "releasedOn" "I", Cond.fieldLink RX2 28 "ParoleCards$Person" "admittedOn" "I", Cond.fieldLink RX2 31 "ParoleCards$Person" "term" "I", Cond.methodLink RX2 54 Lib.Math.min.name, Cond.static Lib.Math.min.name, Cond.initialized "java/lang/Math", Cond.code Lib.Math.min.name Lib.Math.min.code 2 (some .int), Cond.fieldLink RX2 60 "ParoleCards$Person" "lostDays" "I", Cond.methodLink RX2 50 yX2_gainedDays, Cond.instanceMethod yX2_gainedDays]
def wsX5_release_r2 : List Cond := [Cond.selects RX2 yX2_gainedDays yX2_gainedDays, Cond.code yX2_gainedDays cX2_gainedDays 1 (some .int), Cond.fieldLink RX2 37 "ParoleCards$Person" "workedDays" "I", Cond.fieldLink RX2 40 "ParoleCards$Person" "courseDays" "I"]
def wsX5_release : List Cond := .code yX5_release cX5_release 2 (some .int) :: ((wsX5_release_r1 ++ wsX5_release_r2) ++ wsX50 ++ wsX20 ++ (vx_atS RX5 180 "java/lang/IndexOutOfBoundsException" ["java/lang/RuntimeException", "java/lang/Exception"]).filter goodWord)
def wsX5_isIn : List Cond := .code yX5_isIn cX5_isIn 2 (some .boolean) :: ([.fieldLink RX5 88 "ParoleCards$Person" "released" "Z", .methodLink RX5 48 yX5_findPerson, .instanceMethod yX5_findPerson, .selects RX5 yX5_findPerson yX5_findPerson, .initialized RX5, .code yX5_findPerson cX5_findPerson 3 (some (.object "ParoleCards$Person")), .classLink RX5 176 "java/lang/IndexOutOfBoundsException", .initialized "java/lang/IndexOutOfBoundsException", .fieldLink RX5 11 "ParoleCards" "people" "[LParoleCards$Person;"] ++ wsX20 ++ wsX50 ++ (vx_atS RX5 180 "java/lang/IndexOutOfBoundsException" ["java/lang/RuntimeException", "java/lang/Exception"]).filter goodWord)
def wsX5_regime : List Cond := .code yX5_regime cX5_regime 2 (some .int) :: ([.fieldLink RX5 91 "ParoleCards$Person" "regimeNow" "I", .methodLink RX5 48 yX5_findPerson, .instanceMethod yX5_findPerson, .selects RX5 yX5_findPerson yX5_findPerson, .initialized RX5, .code yX5_findPerson cX5_findPerson 3 (some (.object "ParoleCards$Person")), .classLink RX5 176 "java/lang/IndexOutOfBoundsException", .initialized "java/lang/IndexOutOfBoundsException", .fieldLink RX5 11 "ParoleCards" "people" "[LParoleCards$Person;"] ++ wsX20 ++ wsX50 ++ (vx_atS RX5 180 "java/lang/IndexOutOfBoundsException" ["java/lang/RuntimeException", "java/lang/Exception"]).filter goodWord)
def wsX5_papers : List Cond := .code yX5_papers cX5_papers 4 (some .int) :: ([.fieldLink RX5 94 "ParoleCards$Person" "lostDays" "I", .methodLink RX5 48 yX5_findPerson, .instanceMethod yX5_findPerson, .selects RX5 yX5_findPerson yX5_findPerson, .initialized RX5, .code yX5_findPerson cX5_findPerson 3 (some (.object "ParoleCards$Person")), .classLink RX5 176 "java/lang/IndexOutOfBoundsException", .initialized "java/lang/IndexOutOfBoundsException", .fieldLink RX5 11 "ParoleCards" "people" "[LParoleCards$Person;", .methodLink RX5 97 yX2_gainedDays, .instanceMethod yX2_gainedDays, .selects RX2 yX2_gainedDays yX2_gainedDays, .initialized RX2, .code yX2_gainedDays cX2_gainedDays 1 (some .int), .fieldLink RX2 37 "ParoleCards$Person" "workedDays" "I", .fieldLink RX2 40 "ParoleCards$Person" "courseDays" "I"] ++ wsX20 ++ wsX50 ++ (vx_atS RX5 180 "java/lang/IndexOutOfBoundsException" ["java/lang/RuntimeException", "java/lang/Exception"]).filter goodWord)
def wsX5_findTools : List Cond := .code yX5_findTools cX5_findTools 3 (some (.object "ParoleCards$ToolKind")) :: ([.classLink RX5 176 "java/lang/IndexOutOfBoundsException", .initialized "java/lang/IndexOutOfBoundsException", .fieldLink RX5 23 "ParoleCards" "toolKinds" "[LParoleCards$ToolKind;"] ++ wsX50 ++ (vx_atS RX5 180 "java/lang/IndexOutOfBoundsException" ["java/lang/RuntimeException", "java/lang/Exception"]).filter goodWord)
def wsX5_setTools : List Cond := .code yX5_setTools cX5_setTools 5 (some .int) :: ([.classLink RX5 36 "java/lang/IllegalStateException", .initialized "java/lang/IllegalStateException", .fieldLink RX5 104 "ParoleCards$ToolKind" "countedOut" "I", .fieldLink RX5 109 "ParoleCards$ToolKind" "count" "I", .methodLink RX5 100 yX5_findTools, .instanceMethod yX5_findTools, .selects RX5 yX5_findTools yX5_findTools, .initialized RX5, .code yX5_findTools cX5_findTools 3 (some (.object "ParoleCards$ToolKind")), .classLink RX5 176 "java/lang/IndexOutOfBoundsException", .initialized "java/lang/IndexOutOfBoundsException", .fieldLink RX5 23 "ParoleCards" "toolKinds" "[LParoleCards$ToolKind;", .methodLink RX5 28 yX5_checkRange, .static yX5_checkRange, .code yX5_checkRange cX5_checkRange 3 none, .classLink RX5 227 "java/lang/IllegalArgumentException", .initialized "java/lang/IllegalArgumentException"] ++ wsX40 ++ wsX50 ++ (vx_atS RX5 40 "java/lang/IllegalStateException" ["java/lang/RuntimeException", "java/lang/Exception"]).filter goodWord ++ (vx_atS RX5 180 "java/lang/IndexOutOfBoundsException" ["java/lang/RuntimeException", "java/lang/Exception"]).filter goodWord ++ (vx_atS RX5 231 "java/lang/IllegalArgumentException" ["java/lang/RuntimeException", "java/lang/Exception"]).filter goodWord)
def wsX5_toolsOut : List Cond := .code yX5_toolsOut cX5_toolsOut 2 (some .int) :: ([.fieldLink RX5 104 "ParoleCards$ToolKind" "countedOut" "I", .methodLink RX5 100 yX5_findTools, .instanceMethod yX5_findTools, .selects RX5 yX5_findTools yX5_findTools, .initialized RX5, .code yX5_findTools cX5_findTools 3 (some (.object "ParoleCards$ToolKind")), .classLink RX5 176 "java/lang/IndexOutOfBoundsException", .initialized "java/lang/IndexOutOfBoundsException", .fieldLink RX5 23 "ParoleCards" "toolKinds" "[LParoleCards$ToolKind;"] ++ wsX40 ++ wsX50 ++ (vx_atS RX5 180 "java/lang/IndexOutOfBoundsException" ["java/lang/RuntimeException", "java/lang/Exception"]).filter goodWord)
def wsX5_addOrder_r1 : List Cond := [Cond.classLink RX5 36 "java/lang/IllegalStateException", Cond.initialized "java/lang/IllegalStateException", Cond.fieldLink RX5 112 "ParoleCards" "orderCount" "I", Cond.fieldLink RX5 17 "ParoleCards" "orders" "[LParoleCards$Order;", Cond.classLink RX5 15 RX1, Cond.instantiable RX1 6, Cond.initialized RX1, Cond.methodLink RX5 52 yX5_checkSkill, Cond.static yX5_checkSkill, Cond.initialized RX5, Cond.code yX5_checkSkill cX5_checkSkill 1 none, Cond.classLink RX5 176 "java/lang/IndexOutOfBoundsException", Cond.initialized "java/lang/IndexOutOfBoundsException", Cond.methodLink RX5 100 yX5_findTools, Cond.instanceMethod yX5_findTools, Cond.selects RX5 yX5_findTools yX5_findTools, Cond.code yX5_findTools cX5_findTools 3 (some (.object "ParoleCards$ToolKind")), Cond.fieldLink RX5 23 "ParoleCards" "toolKinds" "[LParoleCards$ToolKind;", Cond.methodLink RX5 28 yX5_checkRange, Cond.static yX5_checkRange, Cond.code yX5_checkRange cX5_checkRange 3 none, Cond.classLink RX5 227 "java/lang/IllegalArgumentException", Cond.initialized "java/lang/IllegalArgumentException", Cond.methodLink RX5 117 yX1_init]
def wsX5_addOrder_r2 : List Cond := [Cond.instanceMethod yX1_init, Cond.code yX1_init cX1_init 6 none, Cond.methodLink RX1 1 objectInit, Cond.instanceMethod objectInit, Cond.code objectInit ⟨#[0xb1]⟩ 1 none, Cond.fieldLink RX1 7 "ParoleCards$Order" "number" "I", Cond.fieldLink RX1 13 "ParoleCards$Order" "skill" "I", Cond.fieldLink RX1 16 "ParoleCards$Order" "tools" "LParoleCards$ToolKind;", Cond.fieldLink RX1 20 "ParoleCards$Order" "workLeft" "I", Cond.fieldLink RX1 23 "ParoleCards$Order" "wage" "I"]
def wsX5_addOrder : List Cond := .code yX5_addOrder cX5_addOrder 7 (some .int) :: ((wsX5_addOrder_r1 ++ wsX5_addOrder_r2) ++ wsX50 ++ wsX10 ++ (vx_atS RX5 40 "java/lang/IllegalStateException" ["java/lang/RuntimeException", "java/lang/Exception"]).filter goodWord ++ (vx_atS RX5 180 "java/lang/IndexOutOfBoundsException" ["java/lang/RuntimeException", "java/lang/Exception"]).filter goodWord ++ (vx_atS RX5 231 "java/lang/IllegalArgumentException" ["java/lang/RuntimeException", "java/lang/Exception"]).filter goodWord)
def wsX5_findOrder : List Cond := .code yX5_findOrder cX5_findOrder 3 (some (.object "ParoleCards$Order")) :: ([.classLink RX5 176 "java/lang/IndexOutOfBoundsException", .initialized "java/lang/IndexOutOfBoundsException", .fieldLink RX5 17 "ParoleCards" "orders" "[LParoleCards$Order;"] ++ wsX50 ++ (vx_atS RX5 180 "java/lang/IndexOutOfBoundsException" ["java/lang/RuntimeException", "java/lang/Exception"]).filter goodWord)
def wsX5_assign_r1 : List Cond := [Cond.classLink RX5 36 "java/lang/IllegalStateException", Cond.initialized "java/lang/IllegalStateException", Cond.fieldLink RX5 124 "ParoleCards$Person" "order" "LParoleCards$Order;", Cond.fieldLink RX5 130 "ParoleCards$Order" "skill" "I", Cond.fieldLink RX5 152 "ParoleCards$Order" "peopleOnIt" "I", Cond.methodLink RX5 48 yX5_findPerson, Cond.instanceMethod yX5_findPerson, Cond.selects RX5 yX5_findPerson yX5_findPerson, Cond.initialized RX5, Cond.code yX5_findPerson cX5_findPerson 3 (some (.object "ParoleCards$Person")), Cond.classLink RX5 176 "java/lang/IndexOutOfBoundsException", Cond.initialized "java/lang/IndexOutOfBoundsException", Cond.fieldLink RX5 11 "ParoleCards" "people" "[LParoleCards$Person;", Cond.methodLink RX5 120 yX5_findOrder, Cond.instanceMethod yX5_findOrder, Cond.selects RX5 yX5_findOrder yX5_findOrder, Cond.code yX5_findOrder cX5_findOrder 3 (some (.object "ParoleCards$Order")), Cond.fieldLink RX5 17 "ParoleCards" "orders" "[LParoleCards$Order;", Cond.methodLink RX5 56 yX5_checkIn, Cond.static yX5_checkIn, Cond.code yX5_checkIn cX5_checkIn 1 none, Cond.fieldLink RX5 88 "ParoleCards$Person" "released" "Z", Cond.methodLink RX5 133 yX2_hasSkill, Cond.instanceMethod yX2_hasSkill]
def wsX5_assign_r2 : List Cond := [Cond.selects RX2 yX2_hasSkill yX2_hasSkill, Cond.initialized RX2, Cond.code yX2_hasSkill cX2_hasSkill 2 (some .boolean), Cond.fieldLink RX2 34 "ParoleCards$Person" "skills" "I", Cond.methodLink RX5 139 yX1_isFinished, Cond.instanceMethod yX1_isFinished, Cond.selects RX1 yX1_isFinished yX1_isFinished, Cond.initialized RX1, Cond.code yX1_isFinished cX1_isFinished 1 (some .boolean), Cond.fieldLink RX1 20 "ParoleCards$Order" "workLeft" "I", Cond.methodLink RX5 143 yX1_hasFreeTool, Cond.instanceMethod yX1_hasFreeTool, Cond.selects RX1 yX1_hasFreeTool yX1_hasFreeTool, Cond.code yX1_hasFreeTool cX1_hasFreeTool 1 (some .boolean), Cond.fieldLink RX1 16 "ParoleCards$Order" "tools" "LParoleCards$ToolKind;", Cond.fieldLink RX1 26 "ParoleCards$ToolKind" "countedOut" "I", Cond.fieldLink RX1 31 "ParoleCards$ToolKind" "count" "I", Cond.methodLink RX5 148 yX2_joinOrder, Cond.instanceMethod yX2_joinOrder, Cond.selects RX2 yX2_joinOrder yX2_joinOrder, Cond.code yX2_joinOrder cX2_joinOrder 2 none, Cond.fieldLink RX2 98 "ParoleCards$Person" "order" "LParoleCards$Order;", Cond.fieldLink RX2 102 "ParoleCards$Order" "peopleOnIt" "I", Cond.fieldLink RX2 107 "ParoleCards$Order" "tools" "LParoleCards$ToolKind;"]
def wsX5_assign_r3 : List Cond := [Cond.fieldLink RX2 111 "ParoleCards$ToolKind" "countedOut" "I"]
def wsX5_assign : List Cond := .code yX5_assign cX5_assign 5 (some .int) :: ((wsX5_assign_r1 ++ (wsX5_assign_r2 ++ wsX5_assign_r3)) ++ wsX20 ++ wsX10 ++ wsX50 ++ wsX40 ++ (vx_atS RX5 40 "java/lang/IllegalStateException" ["java/lang/RuntimeException", "java/lang/Exception"]).filter goodWord ++ (vx_atS RX5 180 "java/lang/IndexOutOfBoundsException" ["java/lang/RuntimeException", "java/lang/Exception"]).filter goodWord)
def wsX5_takeOff : List Cond := .code yX5_takeOff cX5_takeOff 4 (some .int) :: ([.classLink RX5 36 "java/lang/IllegalStateException", .initialized "java/lang/IllegalStateException", .fieldLink RX5 124 "ParoleCards$Person" "order" "LParoleCards$Order;", .fieldLink RX5 160 "ParoleCards$Order" "number" "I", .methodLink RX5 48 yX5_findPerson, .instanceMethod yX5_findPerson, .selects RX5 yX5_findPerson yX5_findPerson, .initialized RX5, .code yX5_findPerson cX5_findPerson 3 (some (.object "ParoleCards$Person")), .classLink RX5 176 "java/lang/IndexOutOfBoundsException", .initialized "java/lang/IndexOutOfBoundsException", .fieldLink RX5 11 "ParoleCards" "people" "[LParoleCards$Person;", .methodLink RX5 157 yX2_leaveOrder, .instanceMethod yX2_leaveOrder, .selects RX2 yX2_leaveOrder yX2_leaveOrder, .initialized RX2, .code yX2_leaveOrder cX2_leaveOrder 2 none, .fieldLink RX2 98 "ParoleCards$Person" "order" "LParoleCards$Order;", .fieldLink RX2 102 "ParoleCards$Order" "peopleOnIt" "I", .fieldLink RX2 107 "ParoleCards$Order" "tools" "LParoleCards$ToolKind;", .fieldLink RX2 111 "ParoleCards$ToolKind" "countedOut" "I"] ++ wsX20 ++ wsX10 ++ wsX50 ++ wsX40 ++ (vx_atS RX5 40 "java/lang/IllegalStateException" ["java/lang/RuntimeException", "java/lang/Exception"]).filter goodWord ++ (vx_atS RX5 180 "java/lang/IndexOutOfBoundsException" ["java/lang/RuntimeException", "java/lang/Exception"]).filter goodWord)
def wsX5_orderOf : List Cond := .code yX5_orderOf cX5_orderOf 3 (some .int) :: ([.fieldLink RX5 124 "ParoleCards$Person" "order" "LParoleCards$Order;", .fieldLink RX5 160 "ParoleCards$Order" "number" "I", .methodLink RX5 48 yX5_findPerson, .instanceMethod yX5_findPerson, .selects RX5 yX5_findPerson yX5_findPerson, .initialized RX5, .code yX5_findPerson cX5_findPerson 3 (some (.object "ParoleCards$Person")), .classLink RX5 176 "java/lang/IndexOutOfBoundsException", .initialized "java/lang/IndexOutOfBoundsException", .fieldLink RX5 11 "ParoleCards" "people" "[LParoleCards$Person;"] ++ wsX20 ++ wsX10 ++ wsX50 ++ (vx_atS RX5 180 "java/lang/IndexOutOfBoundsException" ["java/lang/RuntimeException", "java/lang/Exception"]).filter goodWord)
def wsX5_left : List Cond := .code yX5_left cX5_left 2 (some .int) :: ([.fieldLink RX5 163 "ParoleCards$Order" "workLeft" "I", .methodLink RX5 120 yX5_findOrder, .instanceMethod yX5_findOrder, .selects RX5 yX5_findOrder yX5_findOrder, .initialized RX5, .code yX5_findOrder cX5_findOrder 3 (some (.object "ParoleCards$Order")), .classLink RX5 176 "java/lang/IndexOutOfBoundsException", .initialized "java/lang/IndexOutOfBoundsException", .fieldLink RX5 17 "ParoleCards" "orders" "[LParoleCards$Order;"] ++ wsX10 ++ wsX50 ++ (vx_atS RX5 180 "java/lang/IndexOutOfBoundsException" ["java/lang/RuntimeException", "java/lang/Exception"]).filter goodWord)
def wsX5_account : List Cond := .code yX5_account cX5_account 4 (some .int) :: ([.classLink RX5 176 "java/lang/IndexOutOfBoundsException", .initialized "java/lang/IndexOutOfBoundsException", .fieldLink RX5 166 "ParoleCards$Person" "purse" "LParoleCards$Purse;", .fieldLink RX5 170 "ParoleCards$Purse" "accounts" "[I", .methodLink RX5 48 yX5_findPerson, .instanceMethod yX5_findPerson, .selects RX5 yX5_findPerson yX5_findPerson, .initialized RX5, .code yX5_findPerson cX5_findPerson 3 (some (.object "ParoleCards$Person")), .fieldLink RX5 11 "ParoleCards" "people" "[LParoleCards$Person;"] ++ wsX20 ++ wsX30 ++ wsX50 ++ (vx_atS RX5 180 "java/lang/IndexOutOfBoundsException" ["java/lang/RuntimeException", "java/lang/Exception"]).filter goodWord)
def wsX5_buy_r1 : List Cond := [Cond.classLink RX5 36 "java/lang/IllegalStateException", Cond.initialized "java/lang/IllegalStateException", Cond.fieldLink RX5 166 "ParoleCards$Person" "purse" "LParoleCards$Purse;", Cond.fieldLink RX5 170 "ParoleCards$Purse" "accounts" "[I", Cond.fieldLink RX5 43 "ParoleCards" "today" "I", Cond.methodLink RX5 48 yX5_findPerson, Cond.instanceMethod yX5_findPerson, Cond.selects RX5 yX5_findPerson yX5_findPerson, Cond.initialized RX5, Cond.code yX5_findPerson cX5_findPerson 3 (some (.object "ParoleCards$Person")), Cond.classLink RX5 176 "java/lang/IndexOutOfBoundsException", Cond.initialized "java/lang/IndexOutOfBoundsException", Cond.fieldLink RX5 11 "ParoleCards" "people" "[LParoleCards$Person;", Cond.methodLink RX5 28 yX5_checkRange, Cond.static yX5_checkRange, Cond.code yX5_checkRange cX5_checkRange 3 none, Cond.classLink RX5 227 "java/lang/IllegalArgumentException", Cond.initialized "java/lang/IllegalArgumentException", Cond.methodLink RX5 56 yX5_checkIn, Cond.static yX5_checkIn, Cond.code yX5_checkIn cX5_checkIn 1 none, Cond.fieldLink RX5 88 "ParoleCards$Person" "released" "Z", Cond.methodLink RX5 183 yX2_mayStillBuy, Cond.instanceMethod yX2_mayStillBuy]
def wsX5_buy_r2 : List Cond := [Cond.selects RX2 yX2_mayStillBuy yX2_mayStillBuy, Cond.initialized RX2, Cond.code yX2_mayStillBuy cX2_mayStillBuy 2 (some .int), Cond.fieldLink RX2 43 "ParoleCards$Person" "released" "Z", Cond.fieldLink RX2 24 "ParoleCards$Person" "purse" "LParoleCards$Purse;", Cond.methodLink RX2 133 Lib.Math.max.name, Cond.static Lib.Math.max.name, Cond.initialized "java/lang/Math", Cond.code Lib.Math.max.name Lib.Math.max.code 2 (some .int), Cond.methodLink RX2 136 yX2_limitOfSpan, Cond.instanceMethod yX2_limitOfSpan, Cond.selects RX2 yX2_limitOfSpan yX2_limitOfSpan, Cond.code yX2_limitOfSpan cX2_limitOfSpan 7 (some .int), Cond.fieldLink RX2 9 "ParoleCards$Person" "regimeNow" "I", Cond.fieldLink RX2 17 "ParoleCards$Person" "offences" "[LParoleCards$Offence;", Cond.methodLink RX2 129 yX0_lowersLimitOn, Cond.instanceMethod yX0_lowersLimitOn, Cond.selects RX0 yX0_lowersLimitOn yX0_lowersLimitOn, Cond.initialized RX0, Cond.code yX0_lowersLimitOn cX0_lowersLimitOn 2 (some .boolean), Cond.fieldLink RX0 22 "ParoleCards$Offence" "appealed" "Z", Cond.fieldLink RX0 9 "ParoleCards$Offence" "day" "I", Cond.methodLink RX2 140 yX3_boughtInSpan, Cond.instanceMethod yX3_boughtInSpan]
def wsX5_buy_r3 : List Cond := [Cond.selects RX3 yX3_boughtInSpan yX3_boughtInSpan, Cond.initialized RX3, Cond.code yX3_boughtInSpan cX3_boughtInSpan 2 (some .int), Cond.fieldLink RX3 15 "ParoleCards$Purse" "lastSpan" "I", Cond.fieldLink RX3 19 "ParoleCards$Purse" "boughtInLastSpan" "I", Cond.methodLink RX5 189 yX3_spend, Cond.instanceMethod yX3_spend, Cond.selects RX3 yX3_spend yX3_spend, Cond.code yX3_spend cX3_spend 3 none, Cond.fieldLink RX3 9 "ParoleCards$Purse" "accounts" "[I", Cond.methodLink RX3 22 yX3_boughtInSpan]
def wsX5_buy : List Cond := .code yX5_buy cX5_buy 5 (some .int) :: ((wsX5_buy_r1 ++ (wsX5_buy_r2 ++ wsX5_buy_r3)) ++ wsX20 ++ wsX30 ++ wsX50 ++ wsX00 ++ (vx_atS RX5 40 "java/lang/IllegalStateException" ["java/lang/RuntimeException", "java/lang/Exception"]).filter goodWord ++ (vx_atS RX5 180 "java/lang/IndexOutOfBoundsException" ["java/lang/RuntimeException", "java/lang/Exception"]).filter goodWord ++ (vx_atS RX5 231 "java/lang/IllegalArgumentException" ["java/lang/RuntimeException", "java/lang/Exception"]).filter goodWord)
def wsX5_limit_r1 : List Cond := [Cond.fieldLink RX5 43 "ParoleCards" "today" "I", Cond.methodLink RX5 48 yX5_findPerson, Cond.instanceMethod yX5_findPerson, Cond.selects RX5 yX5_findPerson yX5_findPerson, Cond.initialized RX5, Cond.code yX5_findPerson cX5_findPerson 3 (some (.object "ParoleCards$Person")), Cond.classLink RX5 176 "java/lang/IndexOutOfBoundsException", Cond.initialized "java/lang/IndexOutOfBoundsException", Cond.fieldLink RX5 11 "ParoleCards" "people" "[LParoleCards$Person;", Cond.methodLink RX5 183 yX2_mayStillBuy, Cond.instanceMethod yX2_mayStillBuy, Cond.selects RX2 yX2_mayStillBuy yX2_mayStillBuy, Cond.initialized RX2, Cond.code yX2_mayStillBuy cX2_mayStillBuy 2 (some .int), Cond.fieldLink RX2 43 "ParoleCards$Person" "released" "Z", Cond.fieldLink RX2 24 "ParoleCards$Person" "purse" "LParoleCards$Purse;", Cond.methodLink RX2 133 Lib.Math.max.name, Cond.static Lib.Math.max.name, Cond.initialized "java/lang/Math", Cond.code Lib.Math.max.name Lib.Math.max.code 2 (some .int), Cond.methodLink RX2 136 yX2_limitOfSpan, Cond.instanceMethod yX2_limitOfSpan, Cond.selects RX2 yX2_limitOfSpan yX2_limitOfSpan, Cond.code yX2_limitOfSpan cX2_limitOfSpan 7 (some .int)]
def wsX5_limit_r2 : List Cond := [Cond.fieldLink RX2 9 "ParoleCards$Person" "regimeNow" "I", Cond.fieldLink RX2 17 "ParoleCards$Person" "offences" "[LParoleCards$Offence;", Cond.methodLink RX2 129 yX0_lowersLimitOn, Cond.instanceMethod yX0_lowersLimitOn, Cond.selects RX0 yX0_lowersLimitOn yX0_lowersLimitOn, Cond.initialized RX0, Cond.code yX0_lowersLimitOn cX0_lowersLimitOn 2 (some .boolean), Cond.fieldLink RX0 22 "ParoleCards$Offence" "appealed" "Z", Cond.fieldLink RX0 9 "ParoleCards$Offence" "day" "I", Cond.methodLink RX2 140 yX3_boughtInSpan, Cond.instanceMethod yX3_boughtInSpan, Cond.selects RX3 yX3_boughtInSpan yX3_boughtInSpan, Cond.initialized RX3, Cond.code yX3_boughtInSpan cX3_boughtInSpan 2 (some .int), Cond.fieldLink RX3 15 "ParoleCards$Purse" "lastSpan" "I", Cond.fieldLink RX3 19 "ParoleCards$Purse" "boughtInLastSpan" "I"]
def wsX5_limit : List Cond := .code yX5_limit cX5_limit 2 (some .int) :: ((wsX5_limit_r1 ++ wsX5_limit_r2) ++ wsX50 ++ wsX20 ++ wsX00 ++ wsX30 ++ (vx_atS RX5 180 "java/lang/IndexOutOfBoundsException" ["java/lang/RuntimeException", "java/lang/Exception"]).filter goodWord)
def wsX5_paidOut : List Cond := .code yX5_paidOut cX5_paidOut 2 (some .int) :: ([.fieldLink RX5 166 "ParoleCards$Person" "purse" "LParoleCards$Purse;", .fieldLink RX5 192 "ParoleCards$Purse" "paidOutSum" "I", .methodLink RX5 48 yX5_findPerson, .instanceMethod yX5_findPerson, .selects RX5 yX5_findPerson yX5_findPerson, .initialized RX5, .code yX5_findPerson cX5_findPerson 3 (some (.object "ParoleCards$Person")), .classLink RX5 176 "java/lang/IndexOutOfBoundsException", .initialized "java/lang/IndexOutOfBoundsException", .fieldLink RX5 11 "ParoleCards" "people" "[LParoleCards$Person;"] ++ wsX20 ++ wsX30 ++ wsX50 ++ (vx_atS RX5 180 "java/lang/IndexOutOfBoundsException" ["java/lang/RuntimeException", "java/lang/Exception"]).filter goodWord)
def wsX5_workInTheShop_r1 : List Cond := [Cond.fieldLink RX5 11 "ParoleCards" "people" "[LParoleCards$Person;", Cond.methodLink RX5 201 yX2_workOneDay, Cond.instanceMethod yX2_workOneDay, Cond.selects RX2 yX2_workOneDay yX2_workOneDay, Cond.initialized RX2, Cond.code yX2_workOneDay cX2_workOneDay 2 none, Cond.fieldLink RX2 98 "ParoleCards$Person" "order" "LParoleCards$Order;", Cond.fieldLink RX2 119 "ParoleCards$Order" "workLeft" "I", Cond.fieldLink RX2 37 "ParoleCards$Person" "workedDays" "I", Cond.fieldLink RX2 24 "ParoleCards$Person" "purse" "LParoleCards$Purse;", Cond.fieldLink RX2 122 "ParoleCards$Order" "wage" "I", Cond.methodLink RX2 116 yX1_isFinished, Cond.instanceMethod yX1_isFinished, Cond.selects RX1 yX1_isFinished yX1_isFinished, Cond.initialized RX1, Cond.code yX1_isFinished cX1_isFinished 1 (some .boolean), Cond.fieldLink RX1 20 "ParoleCards$Order" "workLeft" "I", Cond.methodLink RX2 125 yX3_partWage, Cond.instanceMethod yX3_partWage, Cond.selects RX3 yX3_partWage yX3_partWage, Cond.initialized RX3, Cond.code yX3_partWage cX3_partWage 5 none, Cond.fieldLink RX3 9 "ParoleCards$Purse" "accounts" "[I", Cond.methodLink RX5 204 yX2_leaveFinishedOrder]
def wsX5_workInTheShop_r2 : List Cond := [Cond.instanceMethod yX2_leaveFinishedOrder, Cond.selects RX2 yX2_leaveFinishedOrder yX2_leaveFinishedOrder, Cond.code yX2_leaveFinishedOrder cX2_leaveFinishedOrder 2 none, Cond.methodLink RX2 86 yX2_leaveOrder, Cond.instanceMethod yX2_leaveOrder, Cond.selects RX2 yX2_leaveOrder yX2_leaveOrder, Cond.code yX2_leaveOrder cX2_leaveOrder 2 none, Cond.fieldLink RX2 102 "ParoleCards$Order" "peopleOnIt" "I", Cond.fieldLink RX2 107 "ParoleCards$Order" "tools" "LParoleCards$ToolKind;", Cond.fieldLink RX2 111 "ParoleCards$ToolKind" "countedOut" "I"]
def wsX5_workInTheShop : List Cond := .code yX5_workInTheShop cX5_workInTheShop 5 none :: ((wsX5_workInTheShop_r1 ++ wsX5_workInTheShop_r2) ++ wsX50 ++ wsX20 ++ wsX10 ++ wsX30 ++ wsX40)
def wsX5_letGoThoseDue_r1 : List Cond := [Cond.fieldLink RX5 11 "ParoleCards" "people" "[LParoleCards$Person;", Cond.fieldLink RX5 43 "ParoleCards" "today" "I", Cond.methodLink RX5 207 yX2_isDue, Cond.instanceMethod yX2_isDue, Cond.selects RX2 yX2_isDue yX2_isDue, Cond.initialized RX2, Cond.code yX2_isDue cX2_isDue 2 (some .boolean), Cond.fieldLink RX2 43 "ParoleCards$Person" "released" "Z", Cond.methodLink RX2 143 yX2_releaseDay, Cond.instanceMethod yX2_releaseDay, Cond.selects RX2 yX2_releaseDay yX2_releaseDay, Cond.code yX2_releaseDay cX2_releaseDay 1 (some .int), Cond.fieldLink RX2 47 "ParoleCards$Person" "releasedOn" "I", Cond.fieldLink RX2 28 "ParoleCards$Person" "admittedOn" "I", Cond.fieldLink RX2 31 "ParoleCards$Person" "term" "I", Cond.methodLink RX2 54 Lib.Math.min.name, Cond.static Lib.Math.min.name, Cond.initialized "java/lang/Math", Cond.code Lib.Math.min.name Lib.Math.min.code 2 (some .int), Cond.fieldLink RX2 60 "ParoleCards$Person" "lostDays" "I", Cond.methodLink RX2 50 yX2_gainedDays, Cond.instanceMethod yX2_gainedDays, Cond.selects RX2 yX2_gainedDays yX2_gainedDays, Cond.code yX2_gainedDays cX2_gainedDays 1 (some .int)]
def wsX5_letGoThoseDue_r2 : List Cond := [Cond.fieldLink RX2 37 "ParoleCards$Person" "workedDays" "I", Cond.fieldLink RX2 40 "ParoleCards$Person" "courseDays" "I", Cond.methodLink RX5 210 yX2_letGo, Cond.instanceMethod yX2_letGo, Cond.selects RX2 yX2_letGo yX2_letGo, Cond.code yX2_letGo cX2_letGo 2 none, Cond.fieldLink RX2 24 "ParoleCards$Person" "purse" "LParoleCards$Purse;", Cond.methodLink RX2 86 yX2_leaveOrder, Cond.instanceMethod yX2_leaveOrder, Cond.selects RX2 yX2_leaveOrder yX2_leaveOrder, Cond.code yX2_leaveOrder cX2_leaveOrder 2 none, Cond.fieldLink RX2 98 "ParoleCards$Person" "order" "LParoleCards$Order;", Cond.fieldLink RX2 102 "ParoleCards$Order" "peopleOnIt" "I", Cond.fieldLink RX2 107 "ParoleCards$Order" "tools" "LParoleCards$ToolKind;", Cond.fieldLink RX2 111 "ParoleCards$ToolKind" "countedOut" "I", Cond.methodLink RX2 146 yX3_payOut, Cond.instanceMethod yX3_payOut, Cond.selects RX3 yX3_payOut yX3_payOut, Cond.initialized RX3, Cond.code yX3_payOut cX3_payOut 1 none, Cond.fieldLink RX3 9 "ParoleCards$Purse" "accounts" "[I", Cond.fieldLink RX3 26 "ParoleCards$Purse" "paidOutSum" "I"]
def wsX5_letGoThoseDue : List Cond := .code yX5_letGoThoseDue cX5_letGoThoseDue 6 (some .int) :: ((wsX5_letGoThoseDue_r1 ++ wsX5_letGoThoseDue_r2) ++ wsX50 ++ wsX20 ++ wsX10 ++ wsX40 ++ wsX30)
def wsX5_pass_r1 : List Cond := [Cond.fieldLink RX5 43 "ParoleCards" "today" "I", Cond.methodLink RX5 28 yX5_checkRange, Cond.static yX5_checkRange, Cond.initialized RX5, Cond.code yX5_checkRange cX5_checkRange 3 none, Cond.classLink RX5 227 "java/lang/IllegalArgumentException", Cond.initialized "java/lang/IllegalArgumentException", Cond.methodLink RX5 195 yX5_workInTheShop, Cond.instanceMethod yX5_workInTheShop, Cond.selects RX5 yX5_workInTheShop yX5_workInTheShop, Cond.code yX5_workInTheShop cX5_workInTheShop 5 none, Cond.fieldLink RX5 11 "ParoleCards" "people" "[LParoleCards$Person;", Cond.methodLink RX5 201 yX2_workOneDay, Cond.instanceMethod yX2_workOneDay, Cond.selects RX2 yX2_workOneDay yX2_workOneDay, Cond.initialized RX2, Cond.code yX2_workOneDay cX2_workOneDay 2 none, Cond.fieldLink RX2 98 "ParoleCards$Person" "order" "LParoleCards$Order;", Cond.fieldLink RX2 119 "ParoleCards$Order" "workLeft" "I", Cond.fieldLink RX2 37 "ParoleCards$Person" "workedDays" "I", Cond.fieldLink RX2 24 "ParoleCards$Person" "purse" "LParoleCards$Purse;", Cond.fieldLink RX2 122 "ParoleCards$Order" "wage" "I", Cond.methodLink RX2 116 yX1_isFinished, Cond.instanceMethod yX1_isFinished]
def wsX5_pass_r2 : List Cond := [Cond.selects RX1 yX1_isFinished yX1_isFinished, Cond.initialized RX1, Cond.code yX1_isFinished cX1_isFinished 1 (some .boolean), Cond.fieldLink RX1 20 "ParoleCards$Order" "workLeft" "I", Cond.methodLink RX2 125 yX3_partWage, Cond.instanceMethod yX3_partWage, Cond.selects RX3 yX3_partWage yX3_partWage, Cond.initialized RX3, Cond.code yX3_partWage cX3_partWage 5 none, Cond.fieldLink RX3 9 "ParoleCards$Purse" "accounts" "[I", Cond.methodLink RX5 204 yX2_leaveFinishedOrder, Cond.instanceMethod yX2_leaveFinishedOrder, Cond.selects RX2 yX2_leaveFinishedOrder yX2_leaveFinishedOrder, Cond.code yX2_leaveFinishedOrder cX2_leaveFinishedOrder 2 none, Cond.methodLink RX2 86 yX2_leaveOrder, Cond.instanceMethod yX2_leaveOrder, Cond.selects RX2 yX2_leaveOrder yX2_leaveOrder, Cond.code yX2_leaveOrder cX2_leaveOrder 2 none, Cond.fieldLink RX2 102 "ParoleCards$Order" "peopleOnIt" "I", Cond.fieldLink RX2 107 "ParoleCards$Order" "tools" "LParoleCards$ToolKind;", Cond.fieldLink RX2 111 "ParoleCards$ToolKind" "countedOut" "I", Cond.methodLink RX5 198 yX5_letGoThoseDue, Cond.instanceMethod yX5_letGoThoseDue, Cond.selects RX5 yX5_letGoThoseDue yX5_letGoThoseDue]
def wsX5_pass_r3 : List Cond := [Cond.code yX5_letGoThoseDue cX5_letGoThoseDue 6 (some .int), Cond.methodLink RX5 207 yX2_isDue, Cond.instanceMethod yX2_isDue, Cond.selects RX2 yX2_isDue yX2_isDue, Cond.code yX2_isDue cX2_isDue 2 (some .boolean), Cond.fieldLink RX2 43 "ParoleCards$Person" "released" "Z", Cond.methodLink RX2 143 yX2_releaseDay, Cond.instanceMethod yX2_releaseDay, Cond.selects RX2 yX2_releaseDay yX2_releaseDay, Cond.code yX2_releaseDay cX2_releaseDay 1 (some .int), Cond.fieldLink RX2 47 "ParoleCards$Person" "releasedOn" "I", Cond.fieldLink RX2 28 "ParoleCards$Person" "admittedOn" "I", Cond.fieldLink RX2 31 "ParoleCards$Person" "term" "I", Cond.methodLink RX2 54 Lib.Math.min.name, Cond.static Lib.Math.min.name, Cond.initialized "java/lang/Math", Cond.code Lib.Math.min.name Lib.Math.min.code 2 (some .int), Cond.fieldLink RX2 60 "ParoleCards$Person" "lostDays" "I", Cond.methodLink RX2 50 yX2_gainedDays, Cond.instanceMethod yX2_gainedDays, Cond.selects RX2 yX2_gainedDays yX2_gainedDays, Cond.code yX2_gainedDays cX2_gainedDays 1 (some .int), Cond.fieldLink RX2 40 "ParoleCards$Person" "courseDays" "I", Cond.methodLink RX5 210 yX2_letGo]
def wsX5_pass_r4 : List Cond := [Cond.instanceMethod yX2_letGo, Cond.selects RX2 yX2_letGo yX2_letGo, Cond.code yX2_letGo cX2_letGo 2 none, Cond.methodLink RX2 146 yX3_payOut, Cond.instanceMethod yX3_payOut, Cond.selects RX3 yX3_payOut yX3_payOut, Cond.code yX3_payOut cX3_payOut 1 none, Cond.fieldLink RX3 26 "ParoleCards$Purse" "paidOutSum" "I"]
def wsX5_pass : List Cond := .code yX5_pass cX5_pass 4 (some .int) :: ((wsX5_pass_r1 ++ (wsX5_pass_r2 ++ (wsX5_pass_r3 ++ wsX5_pass_r4))) ++ wsX50 ++ wsX20 ++ wsX10 ++ wsX30 ++ wsX40 ++ (vx_atS RX5 231 "java/lang/IllegalArgumentException" ["java/lang/RuntimeException", "java/lang/Exception"]).filter goodWord)
def wsX6_init_r1 : List Cond := [Cond.methodLink RX6 1 objectInit, Cond.instanceMethod objectInit, Cond.code objectInit ⟨#[0xb1]⟩ 1 none, Cond.arrayClass .boolean, Cond.fieldLink RX6 7 "ParoleCardsModel" "isOut" "[Z", Cond.arrayClass .int, Cond.fieldLink RX6 13 "ParoleCardsModel" "since" "[I", Cond.fieldLink RX6 17 "ParoleCardsModel" "term" "[I", Cond.fieldLink RX6 20 "ParoleCardsModel" "skills" "[I", Cond.fieldLink RX6 23 "ParoleCardsModel" "regime" "[I", Cond.fieldLink RX6 26 "ParoleCardsModel" "worked" "[I", Cond.fieldLink RX6 29 "ParoleCardsModel" "gained" "[I", Cond.fieldLink RX6 32 "ParoleCardsModel" "papers" "[I", Cond.fieldLink RX6 35 "ParoleCardsModel" "offences" "[I", Cond.fieldLink RX6 38 "ParoleCardsModel" "on" "[I", Cond.fieldLink RX6 41 "ParoleCardsModel" "released" "[I", Cond.fieldLink RX6 44 "ParoleCardsModel" "paid" "[I", Cond.fieldLink RX6 47 "ParoleCardsModel" "account" "[I", Cond.fieldLink RX6 50 "ParoleCardsModel" "span" "[I", Cond.fieldLink RX6 53 "ParoleCardsModel" "bought" "[I", Cond.fieldLink RX6 56 "ParoleCardsModel" "lost" "[I", Cond.fieldLink RX6 59 "ParoleCardsModel" "lostOn" "[I", Cond.fieldLink RX6 62 "ParoleCardsModel" "isLower" "[Z", Cond.fieldLink RX6 65 "ParoleCardsModel" "isAppealed" "[Z"]
def wsX6_init_r2 : List Cond := [Cond.fieldLink RX6 68 "ParoleCardsModel" "tools" "[I", Cond.fieldLink RX6 71 "ParoleCardsModel" "skill" "[I", Cond.fieldLink RX6 74 "ParoleCardsModel" "kind" "[I", Cond.fieldLink RX6 77 "ParoleCardsModel" "left" "[I", Cond.fieldLink RX6 80 "ParoleCardsModel" "wage" "[I"]
def wsX6_init : List Cond := .code yX6_init cX6_init 1 none :: ((wsX6_init_r1 ++ wsX6_init_r2) ++ wsX60)
def wsX6_thrown : List Cond := .code yX6_thrown cX6_thrown 1 (some .int) :: ([.fieldLink RX6 83 "ParoleCardsModel" "thrown" "I"] ++ wsX60)
def wsX6_fails : List Cond := .code yX6_fails cX6_fails 2 (some .boolean) :: ([.fieldLink RX6 83 "ParoleCardsModel" "thrown" "I"] ++ wsX60)
def wsX6_lies : List Cond := .code yX6_lies cX6_lies 3 (some .boolean) :: ([])
def wsX6_isPerson : List Cond := .code yX6_isPerson cX6_isPerson 2 (some .boolean) :: ([.fieldLink RX6 87 "ParoleCardsModel" "people" "I", .methodLink RX6 90 yX6_lies, .static yX6_lies, .initialized RX6, .code yX6_lies cX6_lies 3 (some .boolean)] ++ wsX60)
def wsX6_isOrder : List Cond := .code yX6_isOrder cX6_isOrder 2 (some .boolean) :: ([.fieldLink RX6 94 "ParoleCardsModel" "orders" "I", .methodLink RX6 90 yX6_lies, .static yX6_lies, .initialized RX6, .code yX6_lies cX6_lies 3 (some .boolean)] ++ wsX60)
def wsX6_admit : List Cond := .code yX6_admit cX6_admit 4 (some .int) :: ([.fieldLink RX6 87 "ParoleCardsModel" "people" "I", .fieldLink RX6 13 "ParoleCardsModel" "since" "[I", .fieldLink RX6 101 "ParoleCardsModel" "today" "I", .fieldLink RX6 17 "ParoleCardsModel" "term" "[I", .fieldLink RX6 20 "ParoleCardsModel" "skills" "[I", .fieldLink RX6 23 "ParoleCardsModel" "regime" "[I", .fieldLink RX6 38 "ParoleCardsModel" "on" "[I", .methodLink RX6 90 yX6_lies, .static yX6_lies, .initialized RX6, .code yX6_lies cX6_lies 3 (some .boolean), .methodLink RX6 97 yX6_fails, .instanceMethod yX6_fails, .selects RX6 yX6_fails yX6_fails, .code yX6_fails cX6_fails 2 (some .boolean), .fieldLink RX6 83 "ParoleCardsModel" "thrown" "I"] ++ wsX60)
def wsX6_gains : List Cond := .code yX6_gains cX6_gains 2 (some .int) :: ([.fieldLink RX6 26 "ParoleCardsModel" "worked" "[I", .fieldLink RX6 29 "ParoleCardsModel" "gained" "[I"] ++ wsX60)
def wsX6_loses : List Cond := .code yX6_loses cX6_loses 4 (some .int) :: ([.fieldLink RX6 35 "ParoleCardsModel" "offences" "[I", .fieldLink RX6 65 "ParoleCardsModel" "isAppealed" "[Z", .fieldLink RX6 56 "ParoleCardsModel" "lost" "[I"] ++ wsX60)
def wsX6_releaseOf : List Cond := .code yX6_releaseOf cX6_releaseOf 4 (some .int) :: ([.fieldLink RX6 17 "ParoleCardsModel" "term" "[I", .fieldLink RX6 7 "ParoleCardsModel" "isOut" "[Z", .fieldLink RX6 41 "ParoleCardsModel" "released" "[I", .fieldLink RX6 13 "ParoleCardsModel" "since" "[I", .methodLink RX6 104 yX6_gains, .instanceMethod yX6_gains, .selects RX6 yX6_gains yX6_gains, .initialized RX6, .code yX6_gains cX6_gains 2 (some .int), .fieldLink RX6 26 "ParoleCardsModel" "worked" "[I", .fieldLink RX6 29 "ParoleCardsModel" "gained" "[I", .methodLink RX6 108 yX6_loses, .instanceMethod yX6_loses, .selects RX6 yX6_loses yX6_loses, .code yX6_loses cX6_loses 4 (some .int), .fieldLink RX6 35 "ParoleCardsModel" "offences" "[I", .fieldLink RX6 65 "ParoleCardsModel" "isAppealed" "[Z", .fieldLink RX6 56 "ParoleCardsModel" "lost" "[I"] ++ wsX60)
def wsX6_raises : List Cond := .code yX6_raises cX6_raises 2 none :: ([.fieldLink RX6 23 "ParoleCardsModel" "regime" "[I"] ++ wsX60)
def wsX6_course_r1 : List Cond := [Cond.fieldLink RX6 7 "ParoleCardsModel" "isOut" "[Z", Cond.fieldLink RX6 32 "ParoleCardsModel" "papers" "[I", Cond.fieldLink RX6 20 "ParoleCardsModel" "skills" "[I", Cond.fieldLink RX6 29 "ParoleCardsModel" "gained" "[I", Cond.methodLink RX6 111 yX6_isPerson, Cond.instanceMethod yX6_isPerson, Cond.selects RX6 yX6_isPerson yX6_isPerson, Cond.initialized RX6, Cond.code yX6_isPerson cX6_isPerson 2 (some .boolean), Cond.fieldLink RX6 87 "ParoleCardsModel" "people" "I", Cond.methodLink RX6 90 yX6_lies, Cond.static yX6_lies, Cond.code yX6_lies cX6_lies 3 (some .boolean), Cond.methodLink RX6 97 yX6_fails, Cond.instanceMethod yX6_fails, Cond.selects RX6 yX6_fails yX6_fails, Cond.code yX6_fails cX6_fails 2 (some .boolean), Cond.fieldLink RX6 83 "ParoleCardsModel" "thrown" "I", Cond.methodLink RX6 114 yX6_raises, Cond.instanceMethod yX6_raises, Cond.selects RX6 yX6_raises yX6_raises, Cond.code yX6_raises cX6_raises 2 none, Cond.fieldLink RX6 23 "ParoleCardsModel" "regime" "[I", Cond.methodLink RX6 118 yX6_releaseOf]
def wsX6_course_r2 : List Cond := [Cond.instanceMethod yX6_releaseOf, Cond.selects RX6 yX6_releaseOf yX6_releaseOf, Cond.code yX6_releaseOf cX6_releaseOf 4 (some .int), Cond.fieldLink RX6 17 "ParoleCardsModel" "term" "[I", Cond.fieldLink RX6 41 "ParoleCardsModel" "released" "[I", Cond.fieldLink RX6 13 "ParoleCardsModel" "since" "[I", Cond.methodLink RX6 104 yX6_gains, Cond.instanceMethod yX6_gains, Cond.selects RX6 yX6_gains yX6_gains, Cond.code yX6_gains cX6_gains 2 (some .int), Cond.fieldLink RX6 26 "ParoleCardsModel" "worked" "[I", Cond.methodLink RX6 108 yX6_loses, Cond.instanceMethod yX6_loses, Cond.selects RX6 yX6_loses yX6_loses, Cond.code yX6_loses cX6_loses 4 (some .int), Cond.fieldLink RX6 35 "ParoleCardsModel" "offences" "[I", Cond.fieldLink RX6 65 "ParoleCardsModel" "isAppealed" "[Z", Cond.fieldLink RX6 56 "ParoleCardsModel" "lost" "[I"]
def wsX6_course : List Cond := .code yX6_course cX6_course 5 (some .int) :: ((wsX6_course_r1 ++ wsX6_course_r2) ++ wsX60)
def wsX6_offence : List Cond := .code yX6_offence cX6_offence 4 (some .int) :: ([.fieldLink RX6 7 "ParoleCardsModel" "isOut" "[Z", .fieldLink RX6 32 "ParoleCardsModel" "papers" "[I", .fieldLink RX6 35 "ParoleCardsModel" "offences" "[I", .fieldLink RX6 56 "ParoleCardsModel" "lost" "[I", .fieldLink RX6 59 "ParoleCardsModel" "lostOn" "[I", .fieldLink RX6 101 "ParoleCardsModel" "today" "I", .fieldLink RX6 62 "ParoleCardsModel" "isLower" "[Z", .fieldLink RX6 23 "ParoleCardsModel" "regime" "[I", .fieldLink RX6 65 "ParoleCardsModel" "isAppealed" "[Z", .fieldLink RX6 38 "ParoleCardsModel" "on" "[I", .methodLink RX6 111 yX6_isPerson, .instanceMethod yX6_isPerson, .selects RX6 yX6_isPerson yX6_isPerson, .initialized RX6, .code yX6_isPerson cX6_isPerson 2 (some .boolean), .fieldLink RX6 87 "ParoleCardsModel" "people" "I", .methodLink RX6 90 yX6_lies, .static yX6_lies, .code yX6_lies cX6_lies 3 (some .boolean), .methodLink RX6 97 yX6_fails, .instanceMethod yX6_fails, .selects RX6 yX6_fails yX6_fails, .code yX6_fails cX6_fails 2 (some .boolean), .fieldLink RX6 83 "ParoleCardsModel" "thrown" "I"] ++ wsX60)
def wsX6_appeal_r1 : List Cond := [Cond.fieldLink RX6 35 "ParoleCardsModel" "offences" "[I", Cond.fieldLink RX6 7 "ParoleCardsModel" "isOut" "[Z", Cond.fieldLink RX6 65 "ParoleCardsModel" "isAppealed" "[Z", Cond.fieldLink RX6 62 "ParoleCardsModel" "isLower" "[Z", Cond.methodLink RX6 111 yX6_isPerson, Cond.instanceMethod yX6_isPerson, Cond.selects RX6 yX6_isPerson yX6_isPerson, Cond.initialized RX6, Cond.code yX6_isPerson cX6_isPerson 2 (some .boolean), Cond.fieldLink RX6 87 "ParoleCardsModel" "people" "I", Cond.methodLink RX6 90 yX6_lies, Cond.static yX6_lies, Cond.code yX6_lies cX6_lies 3 (some .boolean), Cond.methodLink RX6 97 yX6_fails, Cond.instanceMethod yX6_fails, Cond.selects RX6 yX6_fails yX6_fails, Cond.code yX6_fails cX6_fails 2 (some .boolean), Cond.fieldLink RX6 83 "ParoleCardsModel" "thrown" "I", Cond.methodLink RX6 114 yX6_raises, Cond.instanceMethod yX6_raises, Cond.selects RX6 yX6_raises yX6_raises, Cond.code yX6_raises cX6_raises 2 none, Cond.fieldLink RX6 23 "ParoleCardsModel" "regime" "[I", Cond.methodLink RX6 118 yX6_releaseOf]
def wsX6_appeal_r2 : List Cond := [Cond.instanceMethod yX6_releaseOf, Cond.selects RX6 yX6_releaseOf yX6_releaseOf, Cond.code yX6_releaseOf cX6_releaseOf 4 (some .int), Cond.fieldLink RX6 17 "ParoleCardsModel" "term" "[I", Cond.fieldLink RX6 41 "ParoleCardsModel" "released" "[I", Cond.fieldLink RX6 13 "ParoleCardsModel" "since" "[I", Cond.methodLink RX6 104 yX6_gains, Cond.instanceMethod yX6_gains, Cond.selects RX6 yX6_gains yX6_gains, Cond.code yX6_gains cX6_gains 2 (some .int), Cond.fieldLink RX6 26 "ParoleCardsModel" "worked" "[I", Cond.fieldLink RX6 29 "ParoleCardsModel" "gained" "[I", Cond.methodLink RX6 108 yX6_loses, Cond.instanceMethod yX6_loses, Cond.selects RX6 yX6_loses yX6_loses, Cond.code yX6_loses cX6_loses 4 (some .int), Cond.fieldLink RX6 56 "ParoleCardsModel" "lost" "[I"]
def wsX6_appeal : List Cond := .code yX6_appeal cX6_appeal 5 (some .int) :: ((wsX6_appeal_r1 ++ wsX6_appeal_r2) ++ wsX60)
def wsX6_release_r1 : List Cond := [Cond.methodLink RX6 111 yX6_isPerson, Cond.instanceMethod yX6_isPerson, Cond.selects RX6 yX6_isPerson yX6_isPerson, Cond.initialized RX6, Cond.code yX6_isPerson cX6_isPerson 2 (some .boolean), Cond.fieldLink RX6 87 "ParoleCardsModel" "people" "I", Cond.methodLink RX6 90 yX6_lies, Cond.static yX6_lies, Cond.code yX6_lies cX6_lies 3 (some .boolean), Cond.methodLink RX6 97 yX6_fails, Cond.instanceMethod yX6_fails, Cond.selects RX6 yX6_fails yX6_fails, Cond.code yX6_fails cX6_fails 2 (some .boolean), Cond.fieldLink RX6 83 "ParoleCardsModel" "thrown" "I", Cond.methodLink RX6 118 yX6_releaseOf, Cond.instanceMethod yX6_releaseOf, Cond.selects RX6 yX6_releaseOf yX6_releaseOf, Cond.code yX6_releaseOf cX6_releaseOf 4 (some .int), Cond.fieldLink RX6 17 "ParoleCardsModel" "term" "[I", Cond.fieldLink RX6 7 "ParoleCardsModel" "isOut" "[Z", Cond.fieldLink RX6 41 "ParoleCardsModel" "released" "[I", Cond.fieldLink RX6 13 "ParoleCardsModel" "since" "[I", Cond.methodLink RX6 104 yX6_gains, Cond.instanceMethod yX6_gains]
def wsX6_release_r2 : List Cond := [Cond.selects RX6 yX6_gains yX6_gains, Cond.code yX6_gains cX6_gains 2 (some .int), Cond.fieldLink RX6 26 "ParoleCardsModel" "worked" "[I", Cond.fieldLink RX6 29 "ParoleCardsModel" "gained" "[I", Cond.methodLink RX6 108 yX6_loses, Cond.instanceMethod yX6_loses, Cond.selects RX6 yX6_loses yX6_loses, Cond.code yX6_loses cX6_loses 4 (some .int), Cond.fieldLink RX6 35 "ParoleCardsModel" "offences" "[I", Cond.fieldLink RX6 65 "ParoleCardsModel" "isAppealed" "[Z", Cond.fieldLink RX6 56 "ParoleCardsModel" "lost" "[I"]
def wsX6_release : List Cond := .code yX6_release cX6_release 2 (some .int) :: ((wsX6_release_r1 ++ wsX6_release_r2) ++ wsX60)
def wsX6_isIn : List Cond := .code yX6_isIn cX6_isIn 2 (some .boolean) :: ([.fieldLink RX6 7 "ParoleCardsModel" "isOut" "[Z", .methodLink RX6 111 yX6_isPerson, .instanceMethod yX6_isPerson, .selects RX6 yX6_isPerson yX6_isPerson, .initialized RX6, .code yX6_isPerson cX6_isPerson 2 (some .boolean), .fieldLink RX6 87 "ParoleCardsModel" "people" "I", .methodLink RX6 90 yX6_lies, .static yX6_lies, .code yX6_lies cX6_lies 3 (some .boolean), .methodLink RX6 97 yX6_fails, .instanceMethod yX6_fails, .selects RX6 yX6_fails yX6_fails, .code yX6_fails cX6_fails 2 (some .boolean), .fieldLink RX6 83 "ParoleCardsModel" "thrown" "I"] ++ wsX60)
def wsX6_of : List Cond := .code yX6_of cX6_of 3 (some .int) :: ([.methodLink RX6 111 yX6_isPerson, .instanceMethod yX6_isPerson, .selects RX6 yX6_isPerson yX6_isPerson, .initialized RX6, .code yX6_isPerson cX6_isPerson 2 (some .boolean), .fieldLink RX6 87 "ParoleCardsModel" "people" "I", .methodLink RX6 90 yX6_lies, .static yX6_lies, .code yX6_lies cX6_lies 3 (some .boolean), .methodLink RX6 97 yX6_fails, .instanceMethod yX6_fails, .selects RX6 yX6_fails yX6_fails, .code yX6_fails cX6_fails 2 (some .boolean), .fieldLink RX6 83 "ParoleCardsModel" "thrown" "I"] ++ wsX60)
def wsX6_regime : List Cond := .code yX6_regime cX6_regime 2 (some .int) :: ([.fieldLink RX6 23 "ParoleCardsModel" "regime" "[I", .methodLink RX6 121 yX6_of, .instanceMethod yX6_of, .selects RX6 yX6_of yX6_of, .initialized RX6, .code yX6_of cX6_of 3 (some .int), .methodLink RX6 111 yX6_isPerson, .instanceMethod yX6_isPerson, .selects RX6 yX6_isPerson yX6_isPerson, .code yX6_isPerson cX6_isPerson 2 (some .boolean), .fieldLink RX6 87 "ParoleCardsModel" "people" "I", .methodLink RX6 90 yX6_lies, .static yX6_lies, .code yX6_lies cX6_lies 3 (some .boolean), .methodLink RX6 97 yX6_fails, .instanceMethod yX6_fails, .selects RX6 yX6_fails yX6_fails, .code yX6_fails cX6_fails 2 (some .boolean), .fieldLink RX6 83 "ParoleCardsModel" "thrown" "I"] ++ wsX60)
def wsX6_papers_r1 : List Cond := [Cond.methodLink RX6 111 yX6_isPerson, Cond.instanceMethod yX6_isPerson, Cond.selects RX6 yX6_isPerson yX6_isPerson, Cond.initialized RX6, Cond.code yX6_isPerson cX6_isPerson 2 (some .boolean), Cond.fieldLink RX6 87 "ParoleCardsModel" "people" "I", Cond.methodLink RX6 90 yX6_lies, Cond.static yX6_lies, Cond.code yX6_lies cX6_lies 3 (some .boolean), Cond.methodLink RX6 97 yX6_fails, Cond.instanceMethod yX6_fails, Cond.selects RX6 yX6_fails yX6_fails, Cond.code yX6_fails cX6_fails 2 (some .boolean), Cond.fieldLink RX6 83 "ParoleCardsModel" "thrown" "I", Cond.methodLink RX6 108 yX6_loses, Cond.instanceMethod yX6_loses, Cond.selects RX6 yX6_loses yX6_loses, Cond.code yX6_loses cX6_loses 4 (some .int), Cond.fieldLink RX6 35 "ParoleCardsModel" "offences" "[I", Cond.fieldLink RX6 65 "ParoleCardsModel" "isAppealed" "[Z", Cond.fieldLink RX6 56 "ParoleCardsModel" "lost" "[I", Cond.methodLink RX6 104 yX6_gains, Cond.instanceMethod yX6_gains, Cond.selects RX6 yX6_gains yX6_gains]
def wsX6_papers_r2 : List Cond := [Cond.code yX6_gains cX6_gains 2 (some .int), Cond.fieldLink RX6 26 "ParoleCardsModel" "worked" "[I", Cond.fieldLink RX6 29 "ParoleCardsModel" "gained" "[I"]
def wsX6_papers : List Cond := .code yX6_papers cX6_papers 3 (some .int) :: ((wsX6_papers_r1 ++ wsX6_papers_r2) ++ wsX60)
def wsX6_isKind : List Cond := .code yX6_isKind cX6_isKind 1 (some .boolean) :: ([.methodLink RX6 90 yX6_lies, .static yX6_lies, .initialized RX6, .code yX6_lies cX6_lies 3 (some .boolean)])
def wsX6_out : List Cond := .code yX6_out cX6_out 4 (some .int) :: ([.fieldLink RX6 87 "ParoleCardsModel" "people" "I", .fieldLink RX6 38 "ParoleCardsModel" "on" "[I", .fieldLink RX6 74 "ParoleCardsModel" "kind" "[I"] ++ wsX60)
def wsX6_setTools : List Cond := .code yX6_setTools cX6_setTools 4 (some .int) :: ([.fieldLink RX6 68 "ParoleCardsModel" "tools" "[I", .methodLink RX6 125 yX6_isKind, .static yX6_isKind, .initialized RX6, .code yX6_isKind cX6_isKind 1 (some .boolean), .methodLink RX6 90 yX6_lies, .static yX6_lies, .code yX6_lies cX6_lies 3 (some .boolean), .methodLink RX6 128 yX6_out, .instanceMethod yX6_out, .selects RX6 yX6_out yX6_out, .code yX6_out cX6_out 4 (some .int), .fieldLink RX6 87 "ParoleCardsModel" "people" "I", .fieldLink RX6 38 "ParoleCardsModel" "on" "[I", .fieldLink RX6 74 "ParoleCardsModel" "kind" "[I", .methodLink RX6 97 yX6_fails, .instanceMethod yX6_fails, .selects RX6 yX6_fails yX6_fails, .code yX6_fails cX6_fails 2 (some .boolean), .fieldLink RX6 83 "ParoleCardsModel" "thrown" "I"] ++ wsX60)
def wsX6_toolsOut : List Cond := .code yX6_toolsOut cX6_toolsOut 2 (some .int) :: ([.methodLink RX6 125 yX6_isKind, .static yX6_isKind, .initialized RX6, .code yX6_isKind cX6_isKind 1 (some .boolean), .methodLink RX6 90 yX6_lies, .static yX6_lies, .code yX6_lies cX6_lies 3 (some .boolean), .methodLink RX6 97 yX6_fails, .instanceMethod yX6_fails, .selects RX6 yX6_fails yX6_fails, .code yX6_fails cX6_fails 2 (some .boolean), .fieldLink RX6 83 "ParoleCardsModel" "thrown" "I", .methodLink RX6 128 yX6_out, .instanceMethod yX6_out, .selects RX6 yX6_out yX6_out, .code yX6_out cX6_out 4 (some .int), .fieldLink RX6 87 "ParoleCardsModel" "people" "I", .fieldLink RX6 38 "ParoleCardsModel" "on" "[I", .fieldLink RX6 74 "ParoleCardsModel" "kind" "[I"] ++ wsX60)
def wsX6_addOrder : List Cond := .code yX6_addOrder cX6_addOrder 7 (some .int) :: ([.fieldLink RX6 94 "ParoleCardsModel" "orders" "I", .fieldLink RX6 71 "ParoleCardsModel" "skill" "[I", .fieldLink RX6 74 "ParoleCardsModel" "kind" "[I", .fieldLink RX6 77 "ParoleCardsModel" "left" "[I", .fieldLink RX6 80 "ParoleCardsModel" "wage" "[I", .methodLink RX6 90 yX6_lies, .static yX6_lies, .initialized RX6, .code yX6_lies cX6_lies 3 (some .boolean), .methodLink RX6 125 yX6_isKind, .static yX6_isKind, .code yX6_isKind cX6_isKind 1 (some .boolean), .methodLink RX6 97 yX6_fails, .instanceMethod yX6_fails, .selects RX6 yX6_fails yX6_fails, .code yX6_fails cX6_fails 2 (some .boolean), .fieldLink RX6 83 "ParoleCardsModel" "thrown" "I"] ++ wsX60)
def wsX6_assign_r1 : List Cond := [Cond.fieldLink RX6 7 "ParoleCardsModel" "isOut" "[Z", Cond.fieldLink RX6 38 "ParoleCardsModel" "on" "[I", Cond.fieldLink RX6 20 "ParoleCardsModel" "skills" "[I", Cond.fieldLink RX6 71 "ParoleCardsModel" "skill" "[I", Cond.fieldLink RX6 77 "ParoleCardsModel" "left" "[I", Cond.fieldLink RX6 74 "ParoleCardsModel" "kind" "[I", Cond.fieldLink RX6 68 "ParoleCardsModel" "tools" "[I", Cond.fieldLink RX6 87 "ParoleCardsModel" "people" "I", Cond.methodLink RX6 111 yX6_isPerson, Cond.instanceMethod yX6_isPerson, Cond.selects RX6 yX6_isPerson yX6_isPerson, Cond.initialized RX6, Cond.code yX6_isPerson cX6_isPerson 2 (some .boolean), Cond.methodLink RX6 90 yX6_lies, Cond.static yX6_lies, Cond.code yX6_lies cX6_lies 3 (some .boolean), Cond.methodLink RX6 131 yX6_isOrder, Cond.instanceMethod yX6_isOrder, Cond.selects RX6 yX6_isOrder yX6_isOrder, Cond.code yX6_isOrder cX6_isOrder 2 (some .boolean), Cond.fieldLink RX6 94 "ParoleCardsModel" "orders" "I", Cond.methodLink RX6 128 yX6_out, Cond.instanceMethod yX6_out, Cond.selects RX6 yX6_out yX6_out]
def wsX6_assign_r2 : List Cond := [Cond.code yX6_out cX6_out 4 (some .int), Cond.methodLink RX6 97 yX6_fails, Cond.instanceMethod yX6_fails, Cond.selects RX6 yX6_fails yX6_fails, Cond.code yX6_fails cX6_fails 2 (some .boolean), Cond.fieldLink RX6 83 "ParoleCardsModel" "thrown" "I"]
def wsX6_assign : List Cond := .code yX6_assign cX6_assign 7 (some .int) :: ((wsX6_assign_r1 ++ wsX6_assign_r2) ++ wsX60)
def wsX6_takeOff : List Cond := .code yX6_takeOff cX6_takeOff 4 (some .int) :: ([.fieldLink RX6 38 "ParoleCardsModel" "on" "[I", .methodLink RX6 111 yX6_isPerson, .instanceMethod yX6_isPerson, .selects RX6 yX6_isPerson yX6_isPerson, .initialized RX6, .code yX6_isPerson cX6_isPerson 2 (some .boolean), .fieldLink RX6 87 "ParoleCardsModel" "people" "I", .methodLink RX6 90 yX6_lies, .static yX6_lies, .code yX6_lies cX6_lies 3 (some .boolean), .methodLink RX6 97 yX6_fails, .instanceMethod yX6_fails, .selects RX6 yX6_fails yX6_fails, .code yX6_fails cX6_fails 2 (some .boolean), .fieldLink RX6 83 "ParoleCardsModel" "thrown" "I"] ++ wsX60)
def wsX6_orderOf : List Cond := .code yX6_orderOf cX6_orderOf 2 (some .int) :: ([.fieldLink RX6 38 "ParoleCardsModel" "on" "[I", .methodLink RX6 121 yX6_of, .instanceMethod yX6_of, .selects RX6 yX6_of yX6_of, .initialized RX6, .code yX6_of cX6_of 3 (some .int), .methodLink RX6 111 yX6_isPerson, .instanceMethod yX6_isPerson, .selects RX6 yX6_isPerson yX6_isPerson, .code yX6_isPerson cX6_isPerson 2 (some .boolean), .fieldLink RX6 87 "ParoleCardsModel" "people" "I", .methodLink RX6 90 yX6_lies, .static yX6_lies, .code yX6_lies cX6_lies 3 (some .boolean), .methodLink RX6 97 yX6_fails, .instanceMethod yX6_fails, .selects RX6 yX6_fails yX6_fails, .code yX6_fails cX6_fails 2 (some .boolean), .fieldLink RX6 83 "ParoleCardsModel" "thrown" "I"] ++ wsX60)
def wsX6_left : List Cond := .code yX6_left cX6_left 2 (some .int) :: ([.fieldLink RX6 77 "ParoleCardsModel" "left" "[I", .methodLink RX6 131 yX6_isOrder, .instanceMethod yX6_isOrder, .selects RX6 yX6_isOrder yX6_isOrder, .initialized RX6, .code yX6_isOrder cX6_isOrder 2 (some .boolean), .fieldLink RX6 94 "ParoleCardsModel" "orders" "I", .methodLink RX6 90 yX6_lies, .static yX6_lies, .code yX6_lies cX6_lies 3 (some .boolean), .methodLink RX6 97 yX6_fails, .instanceMethod yX6_fails, .selects RX6 yX6_fails yX6_fails, .code yX6_fails cX6_fails 2 (some .boolean), .fieldLink RX6 83 "ParoleCardsModel" "thrown" "I"] ++ wsX60)
def wsX6_account : List Cond := .code yX6_account cX6_account 4 (some .int) :: ([.fieldLink RX6 47 "ParoleCardsModel" "account" "[I", .methodLink RX6 111 yX6_isPerson, .instanceMethod yX6_isPerson, .selects RX6 yX6_isPerson yX6_isPerson, .initialized RX6, .code yX6_isPerson cX6_isPerson 2 (some .boolean), .fieldLink RX6 87 "ParoleCardsModel" "people" "I", .methodLink RX6 90 yX6_lies, .static yX6_lies, .code yX6_lies cX6_lies 3 (some .boolean), .methodLink RX6 97 yX6_fails, .instanceMethod yX6_fails, .selects RX6 yX6_fails yX6_fails, .code yX6_fails cX6_fails 2 (some .boolean), .fieldLink RX6 83 "ParoleCardsModel" "thrown" "I"] ++ wsX60)
def wsX6_rest : List Cond := .code yX6_rest cX6_rest 4 (some .int) :: ([.fieldLink RX6 23 "ParoleCardsModel" "regime" "[I", .fieldLink RX6 35 "ParoleCardsModel" "offences" "[I", .fieldLink RX6 65 "ParoleCardsModel" "isAppealed" "[Z", .fieldLink RX6 101 "ParoleCardsModel" "today" "I", .fieldLink RX6 59 "ParoleCardsModel" "lostOn" "[I", .fieldLink RX6 50 "ParoleCardsModel" "span" "[I", .fieldLink RX6 53 "ParoleCardsModel" "bought" "[I", .fieldLink RX6 7 "ParoleCardsModel" "isOut" "[Z"] ++ wsX60)
def wsX6_buy_r1 : List Cond := [Cond.fieldLink RX6 7 "ParoleCardsModel" "isOut" "[Z", Cond.fieldLink RX6 47 "ParoleCardsModel" "account" "[I", Cond.fieldLink RX6 53 "ParoleCardsModel" "bought" "[I", Cond.fieldLink RX6 50 "ParoleCardsModel" "span" "[I", Cond.fieldLink RX6 101 "ParoleCardsModel" "today" "I", Cond.methodLink RX6 111 yX6_isPerson, Cond.instanceMethod yX6_isPerson, Cond.selects RX6 yX6_isPerson yX6_isPerson, Cond.initialized RX6, Cond.code yX6_isPerson cX6_isPerson 2 (some .boolean), Cond.fieldLink RX6 87 "ParoleCardsModel" "people" "I", Cond.methodLink RX6 90 yX6_lies, Cond.static yX6_lies, Cond.code yX6_lies cX6_lies 3 (some .boolean), Cond.methodLink RX6 134 yX6_rest, Cond.instanceMethod yX6_rest, Cond.selects RX6 yX6_rest yX6_rest, Cond.code yX6_rest cX6_rest 4 (some .int), Cond.fieldLink RX6 23 "ParoleCardsModel" "regime" "[I", Cond.fieldLink RX6 35 "ParoleCardsModel" "offences" "[I", Cond.fieldLink RX6 65 "ParoleCardsModel" "isAppealed" "[Z", Cond.fieldLink RX6 59 "ParoleCardsModel" "lostOn" "[I", Cond.methodLink RX6 97 yX6_fails, Cond.instanceMethod yX6_fails]
def wsX6_buy_r2 : List Cond := [Cond.selects RX6 yX6_fails yX6_fails, Cond.code yX6_fails cX6_fails 2 (some .boolean), Cond.fieldLink RX6 83 "ParoleCardsModel" "thrown" "I"]
def wsX6_buy : List Cond := .code yX6_buy cX6_buy 6 (some .int) :: ((wsX6_buy_r1 ++ wsX6_buy_r2) ++ wsX60)
def wsX6_limit_r1 : List Cond := [Cond.methodLink RX6 111 yX6_isPerson, Cond.instanceMethod yX6_isPerson, Cond.selects RX6 yX6_isPerson yX6_isPerson, Cond.initialized RX6, Cond.code yX6_isPerson cX6_isPerson 2 (some .boolean), Cond.fieldLink RX6 87 "ParoleCardsModel" "people" "I", Cond.methodLink RX6 90 yX6_lies, Cond.static yX6_lies, Cond.code yX6_lies cX6_lies 3 (some .boolean), Cond.methodLink RX6 97 yX6_fails, Cond.instanceMethod yX6_fails, Cond.selects RX6 yX6_fails yX6_fails, Cond.code yX6_fails cX6_fails 2 (some .boolean), Cond.fieldLink RX6 83 "ParoleCardsModel" "thrown" "I", Cond.methodLink RX6 134 yX6_rest, Cond.instanceMethod yX6_rest, Cond.selects RX6 yX6_rest yX6_rest, Cond.code yX6_rest cX6_rest 4 (some .int), Cond.fieldLink RX6 23 "ParoleCardsModel" "regime" "[I", Cond.fieldLink RX6 35 "ParoleCardsModel" "offences" "[I", Cond.fieldLink RX6 65 "ParoleCardsModel" "isAppealed" "[Z", Cond.fieldLink RX6 101 "ParoleCardsModel" "today" "I", Cond.fieldLink RX6 59 "ParoleCardsModel" "lostOn" "[I", Cond.fieldLink RX6 50 "ParoleCardsModel" "span" "[I"]
def wsX6_limit_r2 : List Cond := [Cond.fieldLink RX6 53 "ParoleCardsModel" "bought" "[I", Cond.fieldLink RX6 7 "ParoleCardsModel" "isOut" "[Z"]
def wsX6_limit : List Cond := .code yX6_limit cX6_limit 2 (some .int) :: ((wsX6_limit_r1 ++ wsX6_limit_r2) ++ wsX60)
def wsX6_paidOut : List Cond := .code yX6_paidOut cX6_paidOut 2 (some .int) :: ([.fieldLink RX6 44 "ParoleCardsModel" "paid" "[I", .methodLink RX6 121 yX6_of, .instanceMethod yX6_of, .selects RX6 yX6_of yX6_of, .initialized RX6, .code yX6_of cX6_of 3 (some .int), .methodLink RX6 111 yX6_isPerson, .instanceMethod yX6_isPerson, .selects RX6 yX6_isPerson yX6_isPerson, .code yX6_isPerson cX6_isPerson 2 (some .boolean), .fieldLink RX6 87 "ParoleCardsModel" "people" "I", .methodLink RX6 90 yX6_lies, .static yX6_lies, .code yX6_lies cX6_lies 3 (some .boolean), .methodLink RX6 97 yX6_fails, .instanceMethod yX6_fails, .selects RX6 yX6_fails yX6_fails, .code yX6_fails cX6_fails 2 (some .boolean), .fieldLink RX6 83 "ParoleCardsModel" "thrown" "I"] ++ wsX60)
def wsX6_works : List Cond := .code yX6_works cX6_works 5 none :: ([.fieldLink RX6 38 "ParoleCardsModel" "on" "[I", .fieldLink RX6 77 "ParoleCardsModel" "left" "[I", .fieldLink RX6 26 "ParoleCardsModel" "worked" "[I", .fieldLink RX6 80 "ParoleCardsModel" "wage" "[I", .fieldLink RX6 47 "ParoleCardsModel" "account" "[I"] ++ wsX60)
def wsX6_goes_r1 : List Cond := [Cond.fieldLink RX6 7 "ParoleCardsModel" "isOut" "[Z", Cond.fieldLink RX6 101 "ParoleCardsModel" "today" "I", Cond.fieldLink RX6 41 "ParoleCardsModel" "released" "[I", Cond.fieldLink RX6 38 "ParoleCardsModel" "on" "[I", Cond.fieldLink RX6 44 "ParoleCardsModel" "paid" "[I", Cond.fieldLink RX6 47 "ParoleCardsModel" "account" "[I", Cond.methodLink RX6 118 yX6_releaseOf, Cond.instanceMethod yX6_releaseOf, Cond.selects RX6 yX6_releaseOf yX6_releaseOf, Cond.initialized RX6, Cond.code yX6_releaseOf cX6_releaseOf 4 (some .int), Cond.fieldLink RX6 17 "ParoleCardsModel" "term" "[I", Cond.fieldLink RX6 13 "ParoleCardsModel" "since" "[I", Cond.methodLink RX6 104 yX6_gains, Cond.instanceMethod yX6_gains, Cond.selects RX6 yX6_gains yX6_gains, Cond.code yX6_gains cX6_gains 2 (some .int), Cond.fieldLink RX6 26 "ParoleCardsModel" "worked" "[I", Cond.fieldLink RX6 29 "ParoleCardsModel" "gained" "[I", Cond.methodLink RX6 108 yX6_loses, Cond.instanceMethod yX6_loses, Cond.selects RX6 yX6_loses yX6_loses, Cond.code yX6_loses cX6_loses 4 (some .int), Cond.fieldLink RX6 35 "ParoleCardsModel" "offences" "[I"]
def wsX6_goes_r2 : List Cond := [Cond.fieldLink RX6 65 "ParoleCardsModel" "isAppealed" "[Z", Cond.fieldLink RX6 56 "ParoleCardsModel" "lost" "[I"]
def wsX6_goes : List Cond := .code yX6_goes cX6_goes 2 (some .int) :: ((wsX6_goes_r1 ++ wsX6_goes_r2) ++ wsX60)
def wsX6_pass_r1 : List Cond := [Cond.fieldLink RX6 87 "ParoleCardsModel" "people" "I", Cond.fieldLink RX6 38 "ParoleCardsModel" "on" "[I", Cond.fieldLink RX6 77 "ParoleCardsModel" "left" "[I", Cond.fieldLink RX6 101 "ParoleCardsModel" "today" "I", Cond.methodLink RX6 90 yX6_lies, Cond.static yX6_lies, Cond.initialized RX6, Cond.code yX6_lies cX6_lies 3 (some .boolean), Cond.methodLink RX6 97 yX6_fails, Cond.instanceMethod yX6_fails, Cond.selects RX6 yX6_fails yX6_fails, Cond.code yX6_fails cX6_fails 2 (some .boolean), Cond.fieldLink RX6 83 "ParoleCardsModel" "thrown" "I", Cond.methodLink RX6 137 yX6_works, Cond.instanceMethod yX6_works, Cond.selects RX6 yX6_works yX6_works, Cond.code yX6_works cX6_works 5 none, Cond.fieldLink RX6 26 "ParoleCardsModel" "worked" "[I", Cond.fieldLink RX6 80 "ParoleCardsModel" "wage" "[I", Cond.fieldLink RX6 47 "ParoleCardsModel" "account" "[I", Cond.methodLink RX6 140 yX6_goes, Cond.instanceMethod yX6_goes, Cond.selects RX6 yX6_goes yX6_goes, Cond.code yX6_goes cX6_goes 2 (some .int)]
def wsX6_pass_r2 : List Cond := [Cond.fieldLink RX6 7 "ParoleCardsModel" "isOut" "[Z", Cond.fieldLink RX6 41 "ParoleCardsModel" "released" "[I", Cond.fieldLink RX6 44 "ParoleCardsModel" "paid" "[I", Cond.methodLink RX6 118 yX6_releaseOf, Cond.instanceMethod yX6_releaseOf, Cond.selects RX6 yX6_releaseOf yX6_releaseOf, Cond.code yX6_releaseOf cX6_releaseOf 4 (some .int), Cond.fieldLink RX6 17 "ParoleCardsModel" "term" "[I", Cond.fieldLink RX6 13 "ParoleCardsModel" "since" "[I", Cond.methodLink RX6 104 yX6_gains, Cond.instanceMethod yX6_gains, Cond.selects RX6 yX6_gains yX6_gains, Cond.code yX6_gains cX6_gains 2 (some .int), Cond.fieldLink RX6 29 "ParoleCardsModel" "gained" "[I", Cond.methodLink RX6 108 yX6_loses, Cond.instanceMethod yX6_loses, Cond.selects RX6 yX6_loses yX6_loses, Cond.code yX6_loses cX6_loses 4 (some .int), Cond.fieldLink RX6 35 "ParoleCardsModel" "offences" "[I", Cond.fieldLink RX6 65 "ParoleCardsModel" "isAppealed" "[Z", Cond.fieldLink RX6 56 "ParoleCardsModel" "lost" "[I"]
def wsX6_pass : List Cond := .code yX6_pass cX6_pass 5 (some .int) :: ((wsX6_pass_r1 ++ wsX6_pass_r2) ++ wsX60)
def wsJ9_max_7cf53 : List Cond := .code yJ9_max_7cf53 cJ9_max_7cf53 2 (some .int) :: ([])
def wsJ9_min_7cf53 : List Cond := .code yJ9_min_7cf53 cJ9_min_7cf53 2 (some .int) :: ([])
def wsL_admit_r1 : List Cond := [Cond.classLink RL 13 "java/lang/IllegalArgumentException", Cond.classLink RL 15 "java/lang/IllegalStateException", Cond.methodLink RL 7 yX5_admit, Cond.instanceMethod yX5_admit, Cond.selects RX5 yX5_admit yX5_admit, Cond.initialized RX5, Cond.code yX5_admit cX5_admit 4 (some .int), Cond.classLink RX5 36 "java/lang/IllegalStateException", Cond.initialized "java/lang/IllegalStateException", Cond.fieldLink RX5 32 "ParoleCards" "personCount" "I", Cond.fieldLink RX5 11 "ParoleCards" "people" "[LParoleCards$Person;", Cond.classLink RX5 9 RX2, Cond.instantiable RX2 14, Cond.initialized RX2, Cond.fieldLink RX5 43 "ParoleCards" "today" "I", Cond.methodLink RX5 28 yX5_checkRange, Cond.static yX5_checkRange, Cond.code yX5_checkRange cX5_checkRange 3 none, Cond.classLink RX5 227 "java/lang/IllegalArgumentException", Cond.initialized "java/lang/IllegalArgumentException", Cond.methodLink RX5 46 yX2_init, Cond.instanceMethod yX2_init, Cond.code yX2_init cX2_init 4 none, Cond.methodLink RX2 3 objectInit]
def wsL_admit_r2 : List Cond := [Cond.instanceMethod objectInit, Cond.code objectInit ⟨#[0xb1]⟩ 1 none, Cond.fieldLink RX2 9 "ParoleCards$Person" "regimeNow" "I", Cond.classLink RX2 15 RX0, Cond.fieldLink RX2 17 "ParoleCards$Person" "offences" "[LParoleCards$Offence;", Cond.classLink RX2 21 RX3, Cond.instantiable RX3 4, Cond.initialized RX3, Cond.fieldLink RX2 24 "ParoleCards$Person" "purse" "LParoleCards$Purse;", Cond.fieldLink RX2 28 "ParoleCards$Person" "admittedOn" "I", Cond.fieldLink RX2 31 "ParoleCards$Person" "term" "I", Cond.fieldLink RX2 34 "ParoleCards$Person" "skills" "I", Cond.instanceMethod yX3_init, Cond.code yX3_init cX3_init 1 none, Cond.methodLink RX3 3 objectInit, Cond.arrayClass .int, Cond.fieldLink RX3 9 "ParoleCards$Purse" "accounts" "[I"]
def wsL_admit : List Cond := .codeWith yL_admit cL_admit 5 (some .int) [(0, 10, 13, 13), (0, 10, 17, 15)] :: ((wsL_admit_r1 ++ wsL_admit_r2) ++ wsX50 ++ wsX20 ++ wsX30 ++ (vx_atS RX5 40 "java/lang/IllegalStateException" ["java/lang/RuntimeException", "java/lang/Exception"]).filter goodWord ++ (vx_atS RX5 231 "java/lang/IllegalArgumentException" ["java/lang/RuntimeException", "java/lang/Exception"]).filter goodWord)
def wsL_course_r1 : List Cond := [Cond.classLink RL 21 "java/lang/IndexOutOfBoundsException", Cond.classLink RL 13 "java/lang/IllegalArgumentException", Cond.classLink RL 15 "java/lang/IllegalStateException", Cond.methodLink RL 17 yX5_course, Cond.instanceMethod yX5_course, Cond.selects RX5 yX5_course yX5_course, Cond.initialized RX5, Cond.code yX5_course cX5_course 5 (some .int), Cond.methodLink RX5 48 yX5_findPerson, Cond.instanceMethod yX5_findPerson, Cond.selects RX5 yX5_findPerson yX5_findPerson, Cond.code yX5_findPerson cX5_findPerson 3 (some (.object "ParoleCards$Person")), Cond.classLink RX5 176 "java/lang/IndexOutOfBoundsException", Cond.initialized "java/lang/IndexOutOfBoundsException", Cond.fieldLink RX5 11 "ParoleCards" "people" "[LParoleCards$Person;", Cond.methodLink RX5 52 yX5_checkSkill, Cond.static yX5_checkSkill, Cond.code yX5_checkSkill cX5_checkSkill 1 none, Cond.methodLink RX5 28 yX5_checkRange, Cond.static yX5_checkRange, Cond.code yX5_checkRange cX5_checkRange 3 none, Cond.classLink RX5 227 "java/lang/IllegalArgumentException", Cond.initialized "java/lang/IllegalArgumentException", Cond.methodLink RX5 56 yX5_checkIn]
def wsL_course_r2 : List Cond := [Cond.static yX5_checkIn, Cond.code yX5_checkIn cX5_checkIn 1 none, Cond.classLink RX5 36 "java/lang/IllegalStateException", Cond.initialized "java/lang/IllegalStateException", Cond.fieldLink RX5 88 "ParoleCards$Person" "released" "Z", Cond.methodLink RX5 60 yX2_enterCourse, Cond.instanceMethod yX2_enterCourse, Cond.selects RX2 yX2_enterCourse yX2_enterCourse, Cond.initialized RX2, Cond.code yX2_enterCourse cX2_enterCourse 3 none, Cond.classLink RX2 73 "java/lang/IllegalStateException", Cond.fieldLink RX2 34 "ParoleCards$Person" "skills" "I", Cond.fieldLink RX2 63 "ParoleCards$Person" "courseCount" "I", Cond.fieldLink RX2 40 "ParoleCards$Person" "courseDays" "I", Cond.methodLink RX2 69 yX2_hasRoomForPaper, Cond.instanceMethod yX2_hasRoomForPaper, Cond.selects RX2 yX2_hasRoomForPaper yX2_hasRoomForPaper, Cond.code yX2_hasRoomForPaper cX2_hasRoomForPaper 1 (some .boolean), Cond.fieldLink RX2 66 "ParoleCards$Person" "offenceCount" "I", Cond.methodLink RX2 80 yX2_raiseRegime, Cond.instanceMethod yX2_raiseRegime, Cond.selects RX2 yX2_raiseRegime yX2_raiseRegime, Cond.code yX2_raiseRegime cX2_raiseRegime 1 none, Cond.fieldLink RX2 9 "ParoleCards$Person" "regimeNow" "I"]
def wsL_course_r3 : List Cond := [Cond.methodLink RX2 54 Lib.Math.min.name, Cond.static Lib.Math.min.name, Cond.initialized "java/lang/Math", Cond.code Lib.Math.min.name Lib.Math.min.code 2 (some .int), Cond.methodLink RX5 64 yX2_releaseDay, Cond.instanceMethod yX2_releaseDay, Cond.selects RX2 yX2_releaseDay yX2_releaseDay, Cond.code yX2_releaseDay cX2_releaseDay 1 (some .int), Cond.fieldLink RX2 43 "ParoleCards$Person" "released" "Z", Cond.fieldLink RX2 47 "ParoleCards$Person" "releasedOn" "I", Cond.fieldLink RX2 28 "ParoleCards$Person" "admittedOn" "I", Cond.fieldLink RX2 31 "ParoleCards$Person" "term" "I", Cond.fieldLink RX2 60 "ParoleCards$Person" "lostDays" "I", Cond.methodLink RX2 50 yX2_gainedDays, Cond.instanceMethod yX2_gainedDays, Cond.selects RX2 yX2_gainedDays yX2_gainedDays, Cond.code yX2_gainedDays cX2_gainedDays 1 (some .int), Cond.fieldLink RX2 37 "ParoleCards$Person" "workedDays" "I"]
def wsL_course : List Cond := .codeWith yL_course cL_course 6 (some .int) [(0, 12, 15, 21), (0, 12, 19, 13), (0, 12, 23, 15)] :: ((wsL_course_r1 ++ (wsL_course_r2 ++ wsL_course_r3)) ++ wsX50 ++ wsX20 ++ (vx_atS RX5 180 "java/lang/IndexOutOfBoundsException" ["java/lang/RuntimeException", "java/lang/Exception"]).filter goodWord ++ (vx_atS RX5 231 "java/lang/IllegalArgumentException" ["java/lang/RuntimeException", "java/lang/Exception"]).filter goodWord ++ (vx_atS RX5 40 "java/lang/IllegalStateException" ["java/lang/RuntimeException", "java/lang/Exception"]).filter goodWord ++ (vx_atS RX2 77 "java/lang/IllegalStateException" ["java/lang/RuntimeException", "java/lang/Exception"]).filter goodWord)
def wsL_offence_r1 : List Cond := [Cond.classLink RL 21 "java/lang/IndexOutOfBoundsException", Cond.classLink RL 13 "java/lang/IllegalArgumentException", Cond.classLink RL 15 "java/lang/IllegalStateException", Cond.methodLink RL 23 yX5_offence, Cond.instanceMethod yX5_offence, Cond.selects RX5 yX5_offence yX5_offence, Cond.initialized RX5, Cond.code yX5_offence cX5_offence 4 (some .int), Cond.fieldLink RX5 43 "ParoleCards" "today" "I", Cond.methodLink RX5 48 yX5_findPerson, Cond.instanceMethod yX5_findPerson, Cond.selects RX5 yX5_findPerson yX5_findPerson, Cond.code yX5_findPerson cX5_findPerson 3 (some (.object "ParoleCards$Person")), Cond.classLink RX5 176 "java/lang/IndexOutOfBoundsException", Cond.initialized "java/lang/IndexOutOfBoundsException", Cond.fieldLink RX5 11 "ParoleCards" "people" "[LParoleCards$Person;", Cond.methodLink RX5 28 yX5_checkRange, Cond.static yX5_checkRange, Cond.code yX5_checkRange cX5_checkRange 3 none, Cond.classLink RX5 227 "java/lang/IllegalArgumentException", Cond.initialized "java/lang/IllegalArgumentException", Cond.methodLink RX5 56 yX5_checkIn, Cond.static yX5_checkIn, Cond.code yX5_checkIn cX5_checkIn 1 none]
def wsL_offence_r2 : List Cond := [Cond.classLink RX5 36 "java/lang/IllegalStateException", Cond.initialized "java/lang/IllegalStateException", Cond.fieldLink RX5 88 "ParoleCards$Person" "released" "Z", Cond.methodLink RX5 68 yX2_enterOffence, Cond.instanceMethod yX2_enterOffence, Cond.selects RX2 yX2_enterOffence yX2_enterOffence, Cond.initialized RX2, Cond.code yX2_enterOffence cX2_enterOffence 5 (some .int), Cond.classLink RX2 73 "java/lang/IllegalStateException", Cond.fieldLink RX2 66 "ParoleCards$Person" "offenceCount" "I", Cond.fieldLink RX2 17 "ParoleCards$Person" "offences" "[LParoleCards$Offence;", Cond.fieldLink RX2 9 "ParoleCards$Person" "regimeNow" "I", Cond.classLink RX2 15 RX0, Cond.instantiable RX0 4, Cond.initialized RX0, Cond.fieldLink RX2 60 "ParoleCards$Person" "lostDays" "I", Cond.methodLink RX2 69 yX2_hasRoomForPaper, Cond.instanceMethod yX2_hasRoomForPaper, Cond.selects RX2 yX2_hasRoomForPaper yX2_hasRoomForPaper, Cond.code yX2_hasRoomForPaper cX2_hasRoomForPaper 1 (some .boolean), Cond.fieldLink RX2 63 "ParoleCards$Person" "courseCount" "I", Cond.methodLink RX2 83 yX0_init, Cond.instanceMethod yX0_init, Cond.code yX0_init cX0_init 4 none]
def wsL_offence_r3 : List Cond := [Cond.methodLink RX0 3 objectInit, Cond.instanceMethod objectInit, Cond.code objectInit ⟨#[0xb1]⟩ 1 none, Cond.fieldLink RX0 9 "ParoleCards$Offence" "day" "I", Cond.fieldLink RX0 15 "ParoleCards$Offence" "days" "I", Cond.fieldLink RX0 18 "ParoleCards$Offence" "loweredRegime" "Z", Cond.methodLink RX2 86 yX2_leaveOrder, Cond.instanceMethod yX2_leaveOrder, Cond.selects RX2 yX2_leaveOrder yX2_leaveOrder, Cond.code yX2_leaveOrder cX2_leaveOrder 2 none, Cond.fieldLink RX2 98 "ParoleCards$Person" "order" "LParoleCards$Order;", Cond.fieldLink RX2 102 "ParoleCards$Order" "peopleOnIt" "I", Cond.fieldLink RX2 107 "ParoleCards$Order" "tools" "LParoleCards$ToolKind;", Cond.fieldLink RX2 111 "ParoleCards$ToolKind" "countedOut" "I"]
def wsL_offence : List Cond := .codeWith yL_offence cL_offence 5 (some .int) [(0, 10, 13, 21), (0, 10, 17, 13), (0, 10, 21, 15)] :: ((wsL_offence_r1 ++ (wsL_offence_r2 ++ wsL_offence_r3)) ++ wsX50 ++ wsX20 ++ wsX00 ++ wsX10 ++ wsX40 ++ (vx_atS RX5 180 "java/lang/IndexOutOfBoundsException" ["java/lang/RuntimeException", "java/lang/Exception"]).filter goodWord ++ (vx_atS RX5 231 "java/lang/IllegalArgumentException" ["java/lang/RuntimeException", "java/lang/Exception"]).filter goodWord ++ (vx_atS RX5 40 "java/lang/IllegalStateException" ["java/lang/RuntimeException", "java/lang/Exception"]).filter goodWord ++ (vx_atS RX2 77 "java/lang/IllegalStateException" ["java/lang/RuntimeException", "java/lang/Exception"]).filter goodWord)
def wsL_appeal_r1 : List Cond := [Cond.classLink RL 21 "java/lang/IndexOutOfBoundsException", Cond.classLink RL 15 "java/lang/IllegalStateException", Cond.methodLink RL 26 yX5_appeal, Cond.instanceMethod yX5_appeal, Cond.selects RX5 yX5_appeal yX5_appeal, Cond.initialized RX5, Cond.code yX5_appeal cX5_appeal 5 (some .int), Cond.classLink RX5 36 "java/lang/IllegalStateException", Cond.initialized "java/lang/IllegalStateException", Cond.fieldLink RX5 76 "ParoleCards$Offence" "appealed" "Z", Cond.methodLink RX5 48 yX5_findPerson, Cond.instanceMethod yX5_findPerson, Cond.selects RX5 yX5_findPerson yX5_findPerson, Cond.code yX5_findPerson cX5_findPerson 3 (some (.object "ParoleCards$Person")), Cond.classLink RX5 176 "java/lang/IndexOutOfBoundsException", Cond.initialized "java/lang/IndexOutOfBoundsException", Cond.fieldLink RX5 11 "ParoleCards" "people" "[LParoleCards$Person;", Cond.methodLink RX5 72 yX5_findOffence, Cond.static yX5_findOffence, Cond.code yX5_findOffence cX5_findOffence 3 (some (.object "ParoleCards$Offence")), Cond.fieldLink RX5 215 "ParoleCards$Person" "offences" "[LParoleCards$Offence;", Cond.methodLink RX5 56 yX5_checkIn, Cond.static yX5_checkIn, Cond.code yX5_checkIn cX5_checkIn 1 none]
def wsL_appeal_r2 : List Cond := [Cond.fieldLink RX5 88 "ParoleCards$Person" "released" "Z", Cond.methodLink RX5 84 yX2_appealOffence, Cond.instanceMethod yX2_appealOffence, Cond.selects RX2 yX2_appealOffence yX2_appealOffence, Cond.initialized RX2, Cond.code yX2_appealOffence cX2_appealOffence 2 none, Cond.fieldLink RX2 89 "ParoleCards$Offence" "appealed" "Z", Cond.fieldLink RX2 60 "ParoleCards$Person" "lostDays" "I", Cond.fieldLink RX2 92 "ParoleCards$Offence" "days" "I", Cond.fieldLink RX2 95 "ParoleCards$Offence" "loweredRegime" "Z", Cond.methodLink RX2 80 yX2_raiseRegime, Cond.instanceMethod yX2_raiseRegime, Cond.selects RX2 yX2_raiseRegime yX2_raiseRegime, Cond.code yX2_raiseRegime cX2_raiseRegime 1 none, Cond.fieldLink RX2 9 "ParoleCards$Person" "regimeNow" "I", Cond.methodLink RX2 54 Lib.Math.min.name, Cond.static Lib.Math.min.name, Cond.initialized "java/lang/Math", Cond.code Lib.Math.min.name Lib.Math.min.code 2 (some .int), Cond.methodLink RX5 64 yX2_releaseDay, Cond.instanceMethod yX2_releaseDay, Cond.selects RX2 yX2_releaseDay yX2_releaseDay, Cond.code yX2_releaseDay cX2_releaseDay 1 (some .int), Cond.fieldLink RX2 43 "ParoleCards$Person" "released" "Z"]
def wsL_appeal_r3 : List Cond := [Cond.fieldLink RX2 47 "ParoleCards$Person" "releasedOn" "I", Cond.fieldLink RX2 28 "ParoleCards$Person" "admittedOn" "I", Cond.fieldLink RX2 31 "ParoleCards$Person" "term" "I", Cond.methodLink RX2 50 yX2_gainedDays, Cond.instanceMethod yX2_gainedDays, Cond.selects RX2 yX2_gainedDays yX2_gainedDays, Cond.code yX2_gainedDays cX2_gainedDays 1 (some .int), Cond.fieldLink RX2 37 "ParoleCards$Person" "workedDays" "I", Cond.fieldLink RX2 40 "ParoleCards$Person" "courseDays" "I"]
def wsL_appeal : List Cond := .codeWith yL_appeal cL_appeal 5 (some .int) [(0, 10, 13, 21), (0, 10, 17, 15)] :: ((wsL_appeal_r1 ++ (wsL_appeal_r2 ++ wsL_appeal_r3)) ++ wsX00 ++ wsX50 ++ wsX20 ++ (vx_atS RX5 40 "java/lang/IllegalStateException" ["java/lang/RuntimeException", "java/lang/Exception"]).filter goodWord ++ (vx_atS RX5 180 "java/lang/IndexOutOfBoundsException" ["java/lang/RuntimeException", "java/lang/Exception"]).filter goodWord)
def wsL_release_r1 : List Cond := [Cond.classLink RL 21 "java/lang/IndexOutOfBoundsException", Cond.methodLink RL 29 yX5_release, Cond.instanceMethod yX5_release, Cond.selects RX5 yX5_release yX5_release, Cond.initialized RX5, Cond.code yX5_release cX5_release 2 (some .int), Cond.methodLink RX5 48 yX5_findPerson, Cond.instanceMethod yX5_findPerson, Cond.selects RX5 yX5_findPerson yX5_findPerson, Cond.code yX5_findPerson cX5_findPerson 3 (some (.object "ParoleCards$Person")), Cond.classLink RX5 176 "java/lang/IndexOutOfBoundsException", Cond.initialized "java/lang/IndexOutOfBoundsException", Cond.fieldLink RX5 11 "ParoleCards" "people" "[LParoleCards$Person;", Cond.methodLink RX5 64 yX2_releaseDay, Cond.instanceMethod yX2_releaseDay, Cond.selects RX2 yX2_releaseDay yX2_releaseDay, Cond.initialized RX2, Cond.code yX2_releaseDay cX2_releaseDay 1 (some .int), Cond.fieldLink RX2 43 "ParoleCards$Person" "released" "Z", Cond.fieldLink RX2 47 "ParoleCards$Person" "releasedOn" "I", Cond.fieldLink RX2 28 "ParoleCards$Person" "admittedOn" "I", Cond.fieldLink RX2 31 "ParoleCards$Person" "term" "I", Cond.methodLink RX2 54 Lib.Math.min.name, Cond.static Lib.Math.min.name]
def wsL_release_r2 : List Cond := [Cond.initialized "java/lang/Math", Cond.code Lib.Math.min.name Lib.Math.min.code 2 (some .int), Cond.fieldLink RX2 60 "ParoleCards$Person" "lostDays" "I", Cond.methodLink RX2 50 yX2_gainedDays, Cond.instanceMethod yX2_gainedDays, Cond.selects RX2 yX2_gainedDays yX2_gainedDays, Cond.code yX2_gainedDays cX2_gainedDays 1 (some .int), Cond.fieldLink RX2 37 "ParoleCards$Person" "workedDays" "I", Cond.fieldLink RX2 40 "ParoleCards$Person" "courseDays" "I"]
def wsL_release : List Cond := .codeWith yL_release cL_release 4 (some .int) [(0, 9, 12, 21)] :: ((wsL_release_r1 ++ wsL_release_r2) ++ wsX50 ++ wsX20 ++ (vx_atS RX5 180 "java/lang/IndexOutOfBoundsException" ["java/lang/RuntimeException", "java/lang/Exception"]).filter goodWord)
def wsL_isIn : List Cond := .codeWith yL_isIn cL_isIn 4 (some .int) [(0, 16, 19, 21)] :: ([.classLink RL 21 "java/lang/IndexOutOfBoundsException", .methodLink RL 33 yX5_isIn, .instanceMethod yX5_isIn, .selects RX5 yX5_isIn yX5_isIn, .initialized RX5, .code yX5_isIn cX5_isIn 2 (some .boolean), .fieldLink RX5 88 "ParoleCards$Person" "released" "Z", .methodLink RX5 48 yX5_findPerson, .instanceMethod yX5_findPerson, .selects RX5 yX5_findPerson yX5_findPerson, .code yX5_findPerson cX5_findPerson 3 (some (.object "ParoleCards$Person")), .classLink RX5 176 "java/lang/IndexOutOfBoundsException", .initialized "java/lang/IndexOutOfBoundsException", .fieldLink RX5 11 "ParoleCards" "people" "[LParoleCards$Person;"] ++ wsX20 ++ wsX50 ++ (vx_atS RX5 180 "java/lang/IndexOutOfBoundsException" ["java/lang/RuntimeException", "java/lang/Exception"]).filter goodWord)
def wsL_regime : List Cond := .codeWith yL_regime cL_regime 4 (some .int) [(0, 9, 12, 21)] :: ([.classLink RL 21 "java/lang/IndexOutOfBoundsException", .methodLink RL 37 yX5_regime, .instanceMethod yX5_regime, .selects RX5 yX5_regime yX5_regime, .initialized RX5, .code yX5_regime cX5_regime 2 (some .int), .fieldLink RX5 91 "ParoleCards$Person" "regimeNow" "I", .methodLink RX5 48 yX5_findPerson, .instanceMethod yX5_findPerson, .selects RX5 yX5_findPerson yX5_findPerson, .code yX5_findPerson cX5_findPerson 3 (some (.object "ParoleCards$Person")), .classLink RX5 176 "java/lang/IndexOutOfBoundsException", .initialized "java/lang/IndexOutOfBoundsException", .fieldLink RX5 11 "ParoleCards" "people" "[LParoleCards$Person;"] ++ wsX20 ++ wsX50 ++ (vx_atS RX5 180 "java/lang/IndexOutOfBoundsException" ["java/lang/RuntimeException", "java/lang/Exception"]).filter goodWord)
def wsL_papers : List Cond := .codeWith yL_papers cL_papers 5 (some .int) [(0, 10, 13, 21)] :: ([.classLink RL 21 "java/lang/IndexOutOfBoundsException", .methodLink RL 40 yX5_papers, .instanceMethod yX5_papers, .selects RX5 yX5_papers yX5_papers, .initialized RX5, .code yX5_papers cX5_papers 4 (some .int), .fieldLink RX5 94 "ParoleCards$Person" "lostDays" "I", .methodLink RX5 48 yX5_findPerson, .instanceMethod yX5_findPerson, .selects RX5 yX5_findPerson yX5_findPerson, .code yX5_findPerson cX5_findPerson 3 (some (.object "ParoleCards$Person")), .classLink RX5 176 "java/lang/IndexOutOfBoundsException", .initialized "java/lang/IndexOutOfBoundsException", .fieldLink RX5 11 "ParoleCards" "people" "[LParoleCards$Person;", .methodLink RX5 97 yX2_gainedDays, .instanceMethod yX2_gainedDays, .selects RX2 yX2_gainedDays yX2_gainedDays, .initialized RX2, .code yX2_gainedDays cX2_gainedDays 1 (some .int), .fieldLink RX2 37 "ParoleCards$Person" "workedDays" "I", .fieldLink RX2 40 "ParoleCards$Person" "courseDays" "I"] ++ wsX20 ++ wsX50 ++ (vx_atS RX5 180 "java/lang/IndexOutOfBoundsException" ["java/lang/RuntimeException", "java/lang/Exception"]).filter goodWord)
def wsL_setTools : List Cond := .codeWith yL_setTools cL_setTools 5 (some .int) [(0, 10, 13, 21), (0, 10, 17, 13), (0, 10, 21, 15)] :: ([.classLink RL 21 "java/lang/IndexOutOfBoundsException", .classLink RL 13 "java/lang/IllegalArgumentException", .classLink RL 15 "java/lang/IllegalStateException", .methodLink RL 44 yX5_setTools, .instanceMethod yX5_setTools, .selects RX5 yX5_setTools yX5_setTools, .initialized RX5, .code yX5_setTools cX5_setTools 5 (some .int), .classLink RX5 36 "java/lang/IllegalStateException", .initialized "java/lang/IllegalStateException", .fieldLink RX5 104 "ParoleCards$ToolKind" "countedOut" "I", .fieldLink RX5 109 "ParoleCards$ToolKind" "count" "I", .methodLink RX5 100 yX5_findTools, .instanceMethod yX5_findTools, .selects RX5 yX5_findTools yX5_findTools, .code yX5_findTools cX5_findTools 3 (some (.object "ParoleCards$ToolKind")), .classLink RX5 176 "java/lang/IndexOutOfBoundsException", .initialized "java/lang/IndexOutOfBoundsException", .fieldLink RX5 23 "ParoleCards" "toolKinds" "[LParoleCards$ToolKind;", .methodLink RX5 28 yX5_checkRange, .static yX5_checkRange, .code yX5_checkRange cX5_checkRange 3 none, .classLink RX5 227 "java/lang/IllegalArgumentException", .initialized "java/lang/IllegalArgumentException"] ++ wsX40 ++ wsX50 ++ (vx_atS RX5 40 "java/lang/IllegalStateException" ["java/lang/RuntimeException", "java/lang/Exception"]).filter goodWord ++ (vx_atS RX5 180 "java/lang/IndexOutOfBoundsException" ["java/lang/RuntimeException", "java/lang/Exception"]).filter goodWord ++ (vx_atS RX5 231 "java/lang/IllegalArgumentException" ["java/lang/RuntimeException", "java/lang/Exception"]).filter goodWord)
def wsL_toolsOut : List Cond := .codeWith yL_toolsOut cL_toolsOut 4 (some .int) [(0, 9, 12, 21)] :: ([.classLink RL 21 "java/lang/IndexOutOfBoundsException", .methodLink RL 47 yX5_toolsOut, .instanceMethod yX5_toolsOut, .selects RX5 yX5_toolsOut yX5_toolsOut, .initialized RX5, .code yX5_toolsOut cX5_toolsOut 2 (some .int), .fieldLink RX5 104 "ParoleCards$ToolKind" "countedOut" "I", .methodLink RX5 100 yX5_findTools, .instanceMethod yX5_findTools, .selects RX5 yX5_findTools yX5_findTools, .code yX5_findTools cX5_findTools 3 (some (.object "ParoleCards$ToolKind")), .classLink RX5 176 "java/lang/IndexOutOfBoundsException", .initialized "java/lang/IndexOutOfBoundsException", .fieldLink RX5 23 "ParoleCards" "toolKinds" "[LParoleCards$ToolKind;"] ++ wsX40 ++ wsX50 ++ (vx_atS RX5 180 "java/lang/IndexOutOfBoundsException" ["java/lang/RuntimeException", "java/lang/Exception"]).filter goodWord)
def wsL_addOrder_r1 : List Cond := [Cond.classLink RL 21 "java/lang/IndexOutOfBoundsException", Cond.classLink RL 13 "java/lang/IllegalArgumentException", Cond.classLink RL 15 "java/lang/IllegalStateException", Cond.methodLink RL 50 yX5_addOrder, Cond.instanceMethod yX5_addOrder, Cond.selects RX5 yX5_addOrder yX5_addOrder, Cond.initialized RX5, Cond.code yX5_addOrder cX5_addOrder 7 (some .int), Cond.classLink RX5 36 "java/lang/IllegalStateException", Cond.initialized "java/lang/IllegalStateException", Cond.fieldLink RX5 112 "ParoleCards" "orderCount" "I", Cond.fieldLink RX5 17 "ParoleCards" "orders" "[LParoleCards$Order;", Cond.classLink RX5 15 RX1, Cond.instantiable RX1 6, Cond.initialized RX1, Cond.methodLink RX5 52 yX5_checkSkill, Cond.static yX5_checkSkill, Cond.code yX5_checkSkill cX5_checkSkill 1 none, Cond.classLink RX5 176 "java/lang/IndexOutOfBoundsException", Cond.initialized "java/lang/IndexOutOfBoundsException", Cond.methodLink RX5 100 yX5_findTools, Cond.instanceMethod yX5_findTools, Cond.selects RX5 yX5_findTools yX5_findTools, Cond.code yX5_findTools cX5_findTools 3 (some (.object "ParoleCards$ToolKind"))]
def wsL_addOrder_r2 : List Cond := [Cond.fieldLink RX5 23 "ParoleCards" "toolKinds" "[LParoleCards$ToolKind;", Cond.methodLink RX5 28 yX5_checkRange, Cond.static yX5_checkRange, Cond.code yX5_checkRange cX5_checkRange 3 none, Cond.classLink RX5 227 "java/lang/IllegalArgumentException", Cond.initialized "java/lang/IllegalArgumentException", Cond.methodLink RX5 117 yX1_init, Cond.instanceMethod yX1_init, Cond.code yX1_init cX1_init 6 none, Cond.methodLink RX1 1 objectInit, Cond.instanceMethod objectInit, Cond.code objectInit ⟨#[0xb1]⟩ 1 none, Cond.fieldLink RX1 7 "ParoleCards$Order" "number" "I", Cond.fieldLink RX1 13 "ParoleCards$Order" "skill" "I", Cond.fieldLink RX1 16 "ParoleCards$Order" "tools" "LParoleCards$ToolKind;", Cond.fieldLink RX1 20 "ParoleCards$Order" "workLeft" "I", Cond.fieldLink RX1 23 "ParoleCards$Order" "wage" "I"]
def wsL_addOrder : List Cond := .codeWith yL_addOrder cL_addOrder 7 (some .int) [(0, 14, 17, 21), (0, 14, 21, 13), (0, 14, 25, 15)] :: ((wsL_addOrder_r1 ++ wsL_addOrder_r2) ++ wsX50 ++ wsX10 ++ (vx_atS RX5 40 "java/lang/IllegalStateException" ["java/lang/RuntimeException", "java/lang/Exception"]).filter goodWord ++ (vx_atS RX5 180 "java/lang/IndexOutOfBoundsException" ["java/lang/RuntimeException", "java/lang/Exception"]).filter goodWord ++ (vx_atS RX5 231 "java/lang/IllegalArgumentException" ["java/lang/RuntimeException", "java/lang/Exception"]).filter goodWord)
def wsL_assign_r1 : List Cond := [Cond.classLink RL 21 "java/lang/IndexOutOfBoundsException", Cond.classLink RL 15 "java/lang/IllegalStateException", Cond.methodLink RL 54 yX5_assign, Cond.instanceMethod yX5_assign, Cond.selects RX5 yX5_assign yX5_assign, Cond.initialized RX5, Cond.code yX5_assign cX5_assign 5 (some .int), Cond.classLink RX5 36 "java/lang/IllegalStateException", Cond.initialized "java/lang/IllegalStateException", Cond.fieldLink RX5 124 "ParoleCards$Person" "order" "LParoleCards$Order;", Cond.fieldLink RX5 130 "ParoleCards$Order" "skill" "I", Cond.fieldLink RX5 152 "ParoleCards$Order" "peopleOnIt" "I", Cond.methodLink RX5 48 yX5_findPerson, Cond.instanceMethod yX5_findPerson, Cond.selects RX5 yX5_findPerson yX5_findPerson, Cond.code yX5_findPerson cX5_findPerson 3 (some (.object "ParoleCards$Person")), Cond.classLink RX5 176 "java/lang/IndexOutOfBoundsException", Cond.initialized "java/lang/IndexOutOfBoundsException", Cond.fieldLink RX5 11 "ParoleCards" "people" "[LParoleCards$Person;", Cond.methodLink RX5 120 yX5_findOrder, Cond.instanceMethod yX5_findOrder, Cond.selects RX5 yX5_findOrder yX5_findOrder, Cond.code yX5_findOrder cX5_findOrder 3 (some (.object "ParoleCards$Order")), Cond.fieldLink RX5 17 "ParoleCards" "orders" "[LParoleCards$Order;"]
def wsL_assign_r2 : List Cond := [Cond.methodLink RX5 56 yX5_checkIn, Cond.static yX5_checkIn, Cond.code yX5_checkIn cX5_checkIn 1 none, Cond.fieldLink RX5 88 "ParoleCards$Person" "released" "Z", Cond.methodLink RX5 133 yX2_hasSkill, Cond.instanceMethod yX2_hasSkill, Cond.selects RX2 yX2_hasSkill yX2_hasSkill, Cond.initialized RX2, Cond.code yX2_hasSkill cX2_hasSkill 2 (some .boolean), Cond.fieldLink RX2 34 "ParoleCards$Person" "skills" "I", Cond.methodLink RX5 139 yX1_isFinished, Cond.instanceMethod yX1_isFinished, Cond.selects RX1 yX1_isFinished yX1_isFinished, Cond.initialized RX1, Cond.code yX1_isFinished cX1_isFinished 1 (some .boolean), Cond.fieldLink RX1 20 "ParoleCards$Order" "workLeft" "I", Cond.methodLink RX5 143 yX1_hasFreeTool, Cond.instanceMethod yX1_hasFreeTool, Cond.selects RX1 yX1_hasFreeTool yX1_hasFreeTool, Cond.code yX1_hasFreeTool cX1_hasFreeTool 1 (some .boolean), Cond.fieldLink RX1 16 "ParoleCards$Order" "tools" "LParoleCards$ToolKind;", Cond.fieldLink RX1 26 "ParoleCards$ToolKind" "countedOut" "I", Cond.fieldLink RX1 31 "ParoleCards$ToolKind" "count" "I", Cond.methodLink RX5 148 yX2_joinOrder]
def wsL_assign_r3 : List Cond := [Cond.instanceMethod yX2_joinOrder, Cond.selects RX2 yX2_joinOrder yX2_joinOrder, Cond.code yX2_joinOrder cX2_joinOrder 2 none, Cond.fieldLink RX2 98 "ParoleCards$Person" "order" "LParoleCards$Order;", Cond.fieldLink RX2 102 "ParoleCards$Order" "peopleOnIt" "I", Cond.fieldLink RX2 107 "ParoleCards$Order" "tools" "LParoleCards$ToolKind;", Cond.fieldLink RX2 111 "ParoleCards$ToolKind" "countedOut" "I"]
def wsL_assign : List Cond := .codeWith yL_assign cL_assign 5 (some .int) [(0, 10, 13, 21), (0, 10, 17, 15)] :: ((wsL_assign_r1 ++ (wsL_assign_r2 ++ wsL_assign_r3)) ++ wsX20 ++ wsX10 ++ wsX50 ++ wsX40 ++ (vx_atS RX5 40 "java/lang/IllegalStateException" ["java/lang/RuntimeException", "java/lang/Exception"]).filter goodWord ++ (vx_atS RX5 180 "java/lang/IndexOutOfBoundsException" ["java/lang/RuntimeException", "java/lang/Exception"]).filter goodWord)
def wsL_takeOff_r1 : List Cond := [Cond.classLink RL 21 "java/lang/IndexOutOfBoundsException", Cond.classLink RL 15 "java/lang/IllegalStateException", Cond.methodLink RL 57 yX5_takeOff, Cond.instanceMethod yX5_takeOff, Cond.selects RX5 yX5_takeOff yX5_takeOff, Cond.initialized RX5, Cond.code yX5_takeOff cX5_takeOff 4 (some .int), Cond.classLink RX5 36 "java/lang/IllegalStateException", Cond.initialized "java/lang/IllegalStateException", Cond.fieldLink RX5 124 "ParoleCards$Person" "order" "LParoleCards$Order;", Cond.fieldLink RX5 160 "ParoleCards$Order" "number" "I", Cond.methodLink RX5 48 yX5_findPerson, Cond.instanceMethod yX5_findPerson, Cond.selects RX5 yX5_findPerson yX5_findPerson, Cond.code yX5_findPerson cX5_findPerson 3 (some (.object "ParoleCards$Person")), Cond.classLink RX5 176 "java/lang/IndexOutOfBoundsException", Cond.initialized "java/lang/IndexOutOfBoundsException", Cond.fieldLink RX5 11 "ParoleCards" "people" "[LParoleCards$Person;", Cond.methodLink RX5 157 yX2_leaveOrder, Cond.instanceMethod yX2_leaveOrder, Cond.selects RX2 yX2_leaveOrder yX2_leaveOrder, Cond.initialized RX2, Cond.code yX2_leaveOrder cX2_leaveOrder 2 none, Cond.fieldLink RX2 98 "ParoleCards$Person" "order" "LParoleCards$Order;"]
def wsL_takeOff_r2 : List Cond := [Cond.fieldLink RX2 102 "ParoleCards$Order" "peopleOnIt" "I", Cond.fieldLink RX2 107 "ParoleCards$Order" "tools" "LParoleCards$ToolKind;", Cond.fieldLink RX2 111 "ParoleCards$ToolKind" "countedOut" "I"]
def wsL_takeOff : List Cond := .codeWith yL_takeOff cL_takeOff 4 (some .int) [(0, 9, 12, 21), (0, 9, 15, 15)] :: ((wsL_takeOff_r1 ++ wsL_takeOff_r2) ++ wsX20 ++ wsX10 ++ wsX50 ++ wsX40 ++ (vx_atS RX5 40 "java/lang/IllegalStateException" ["java/lang/RuntimeException", "java/lang/Exception"]).filter goodWord ++ (vx_atS RX5 180 "java/lang/IndexOutOfBoundsException" ["java/lang/RuntimeException", "java/lang/Exception"]).filter goodWord)
def wsL_orderOf : List Cond := .codeWith yL_orderOf cL_orderOf 4 (some .int) [(0, 9, 12, 21)] :: ([.classLink RL 21 "java/lang/IndexOutOfBoundsException", .methodLink RL 60 yX5_orderOf, .instanceMethod yX5_orderOf, .selects RX5 yX5_orderOf yX5_orderOf, .initialized RX5, .code yX5_orderOf cX5_orderOf 3 (some .int), .fieldLink RX5 124 "ParoleCards$Person" "order" "LParoleCards$Order;", .fieldLink RX5 160 "ParoleCards$Order" "number" "I", .methodLink RX5 48 yX5_findPerson, .instanceMethod yX5_findPerson, .selects RX5 yX5_findPerson yX5_findPerson, .code yX5_findPerson cX5_findPerson 3 (some (.object "ParoleCards$Person")), .classLink RX5 176 "java/lang/IndexOutOfBoundsException", .initialized "java/lang/IndexOutOfBoundsException", .fieldLink RX5 11 "ParoleCards" "people" "[LParoleCards$Person;"] ++ wsX20 ++ wsX10 ++ wsX50 ++ (vx_atS RX5 180 "java/lang/IndexOutOfBoundsException" ["java/lang/RuntimeException", "java/lang/Exception"]).filter goodWord)
def wsL_left : List Cond := .codeWith yL_left cL_left 4 (some .int) [(0, 9, 12, 21)] :: ([.classLink RL 21 "java/lang/IndexOutOfBoundsException", .methodLink RL 63 yX5_left, .instanceMethod yX5_left, .selects RX5 yX5_left yX5_left, .initialized RX5, .code yX5_left cX5_left 2 (some .int), .fieldLink RX5 163 "ParoleCards$Order" "workLeft" "I", .methodLink RX5 120 yX5_findOrder, .instanceMethod yX5_findOrder, .selects RX5 yX5_findOrder yX5_findOrder, .code yX5_findOrder cX5_findOrder 3 (some (.object "ParoleCards$Order")), .classLink RX5 176 "java/lang/IndexOutOfBoundsException", .initialized "java/lang/IndexOutOfBoundsException", .fieldLink RX5 17 "ParoleCards" "orders" "[LParoleCards$Order;"] ++ wsX10 ++ wsX50 ++ (vx_atS RX5 180 "java/lang/IndexOutOfBoundsException" ["java/lang/RuntimeException", "java/lang/Exception"]).filter goodWord)
def wsL_account : List Cond := .codeWith yL_account cL_account 5 (some .int) [(0, 10, 13, 21)] :: ([.classLink RL 21 "java/lang/IndexOutOfBoundsException", .methodLink RL 66 yX5_account, .instanceMethod yX5_account, .selects RX5 yX5_account yX5_account, .initialized RX5, .code yX5_account cX5_account 4 (some .int), .classLink RX5 176 "java/lang/IndexOutOfBoundsException", .initialized "java/lang/IndexOutOfBoundsException", .fieldLink RX5 166 "ParoleCards$Person" "purse" "LParoleCards$Purse;", .fieldLink RX5 170 "ParoleCards$Purse" "accounts" "[I", .methodLink RX5 48 yX5_findPerson, .instanceMethod yX5_findPerson, .selects RX5 yX5_findPerson yX5_findPerson, .code yX5_findPerson cX5_findPerson 3 (some (.object "ParoleCards$Person")), .fieldLink RX5 11 "ParoleCards" "people" "[LParoleCards$Person;"] ++ wsX20 ++ wsX30 ++ wsX50 ++ (vx_atS RX5 180 "java/lang/IndexOutOfBoundsException" ["java/lang/RuntimeException", "java/lang/Exception"]).filter goodWord)
def wsL_buy_r1 : List Cond := [Cond.classLink RL 21 "java/lang/IndexOutOfBoundsException", Cond.classLink RL 13 "java/lang/IllegalArgumentException", Cond.classLink RL 15 "java/lang/IllegalStateException", Cond.methodLink RL 69 yX5_buy, Cond.instanceMethod yX5_buy, Cond.selects RX5 yX5_buy yX5_buy, Cond.initialized RX5, Cond.code yX5_buy cX5_buy 5 (some .int), Cond.classLink RX5 36 "java/lang/IllegalStateException", Cond.initialized "java/lang/IllegalStateException", Cond.fieldLink RX5 166 "ParoleCards$Person" "purse" "LParoleCards$Purse;", Cond.fieldLink RX5 170 "ParoleCards$Purse" "accounts" "[I", Cond.fieldLink RX5 43 "ParoleCards" "today" "I", Cond.methodLink RX5 48 yX5_findPerson, Cond.instanceMethod yX5_findPerson, Cond.selects RX5 yX5_findPerson yX5_findPerson, Cond.code yX5_findPerson cX5_findPerson 3 (some (.object "ParoleCards$Person")), Cond.classLink RX5 176 "java/lang/IndexOutOfBoundsException", Cond.initialized "java/lang/IndexOutOfBoundsException", Cond.fieldLink RX5 11 "ParoleCards" "people" "[LParoleCards$Person;", Cond.methodLink RX5 28 yX5_checkRange, Cond.static yX5_checkRange, Cond.code yX5_checkRange cX5_checkRange 3 none, Cond.classLink RX5 227 "java/lang/IllegalArgumentException"]
def wsL_buy_r2 : List Cond := [Cond.initialized "java/lang/IllegalArgumentException", Cond.methodLink RX5 56 yX5_checkIn, Cond.static yX5_checkIn, Cond.code yX5_checkIn cX5_checkIn 1 none, Cond.fieldLink RX5 88 "ParoleCards$Person" "released" "Z", Cond.methodLink RX5 183 yX2_mayStillBuy, Cond.instanceMethod yX2_mayStillBuy, Cond.selects RX2 yX2_mayStillBuy yX2_mayStillBuy, Cond.initialized RX2, Cond.code yX2_mayStillBuy cX2_mayStillBuy 2 (some .int), Cond.fieldLink RX2 43 "ParoleCards$Person" "released" "Z", Cond.fieldLink RX2 24 "ParoleCards$Person" "purse" "LParoleCards$Purse;", Cond.methodLink RX2 133 Lib.Math.max.name, Cond.static Lib.Math.max.name, Cond.initialized "java/lang/Math", Cond.code Lib.Math.max.name Lib.Math.max.code 2 (some .int), Cond.methodLink RX2 136 yX2_limitOfSpan, Cond.instanceMethod yX2_limitOfSpan, Cond.selects RX2 yX2_limitOfSpan yX2_limitOfSpan, Cond.code yX2_limitOfSpan cX2_limitOfSpan 7 (some .int), Cond.fieldLink RX2 9 "ParoleCards$Person" "regimeNow" "I", Cond.fieldLink RX2 17 "ParoleCards$Person" "offences" "[LParoleCards$Offence;", Cond.methodLink RX2 129 yX0_lowersLimitOn, Cond.instanceMethod yX0_lowersLimitOn]
def wsL_buy_r3 : List Cond := [Cond.selects RX0 yX0_lowersLimitOn yX0_lowersLimitOn, Cond.initialized RX0, Cond.code yX0_lowersLimitOn cX0_lowersLimitOn 2 (some .boolean), Cond.fieldLink RX0 22 "ParoleCards$Offence" "appealed" "Z", Cond.fieldLink RX0 9 "ParoleCards$Offence" "day" "I", Cond.methodLink RX2 140 yX3_boughtInSpan, Cond.instanceMethod yX3_boughtInSpan, Cond.selects RX3 yX3_boughtInSpan yX3_boughtInSpan, Cond.initialized RX3, Cond.code yX3_boughtInSpan cX3_boughtInSpan 2 (some .int), Cond.fieldLink RX3 15 "ParoleCards$Purse" "lastSpan" "I", Cond.fieldLink RX3 19 "ParoleCards$Purse" "boughtInLastSpan" "I", Cond.methodLink RX5 189 yX3_spend, Cond.instanceMethod yX3_spend, Cond.selects RX3 yX3_spend yX3_spend, Cond.code yX3_spend cX3_spend 3 none, Cond.fieldLink RX3 9 "ParoleCards$Purse" "accounts" "[I", Cond.methodLink RX3 22 yX3_boughtInSpan]
def wsL_buy : List Cond := .codeWith yL_buy cL_buy 5 (some .int) [(0, 10, 13, 21), (0, 10, 17, 13), (0, 10, 21, 15)] :: ((wsL_buy_r1 ++ (wsL_buy_r2 ++ wsL_buy_r3)) ++ wsX20 ++ wsX30 ++ wsX50 ++ wsX00 ++ (vx_atS RX5 40 "java/lang/IllegalStateException" ["java/lang/RuntimeException", "java/lang/Exception"]).filter goodWord ++ (vx_atS RX5 180 "java/lang/IndexOutOfBoundsException" ["java/lang/RuntimeException", "java/lang/Exception"]).filter goodWord ++ (vx_atS RX5 231 "java/lang/IllegalArgumentException" ["java/lang/RuntimeException", "java/lang/Exception"]).filter goodWord)
def wsL_limit_r1 : List Cond := [Cond.classLink RL 21 "java/lang/IndexOutOfBoundsException", Cond.methodLink RL 72 yX5_limit, Cond.instanceMethod yX5_limit, Cond.selects RX5 yX5_limit yX5_limit, Cond.initialized RX5, Cond.code yX5_limit cX5_limit 2 (some .int), Cond.fieldLink RX5 43 "ParoleCards" "today" "I", Cond.methodLink RX5 48 yX5_findPerson, Cond.instanceMethod yX5_findPerson, Cond.selects RX5 yX5_findPerson yX5_findPerson, Cond.code yX5_findPerson cX5_findPerson 3 (some (.object "ParoleCards$Person")), Cond.classLink RX5 176 "java/lang/IndexOutOfBoundsException", Cond.initialized "java/lang/IndexOutOfBoundsException", Cond.fieldLink RX5 11 "ParoleCards" "people" "[LParoleCards$Person;", Cond.methodLink RX5 183 yX2_mayStillBuy, Cond.instanceMethod yX2_mayStillBuy, Cond.selects RX2 yX2_mayStillBuy yX2_mayStillBuy, Cond.initialized RX2, Cond.code yX2_mayStillBuy cX2_mayStillBuy 2 (some .int), Cond.fieldLink RX2 43 "ParoleCards$Person" "released" "Z", Cond.fieldLink RX2 24 "ParoleCards$Person" "purse" "LParoleCards$Purse;", Cond.methodLink RX2 133 Lib.Math.max.name, Cond.static Lib.Math.max.name, Cond.initialized "java/lang/Math"]
def wsL_limit_r2 : List Cond := [Cond.code Lib.Math.max.name Lib.Math.max.code 2 (some .int), Cond.methodLink RX2 136 yX2_limitOfSpan, Cond.instanceMethod yX2_limitOfSpan, Cond.selects RX2 yX2_limitOfSpan yX2_limitOfSpan, Cond.code yX2_limitOfSpan cX2_limitOfSpan 7 (some .int), Cond.fieldLink RX2 9 "ParoleCards$Person" "regimeNow" "I", Cond.fieldLink RX2 17 "ParoleCards$Person" "offences" "[LParoleCards$Offence;", Cond.methodLink RX2 129 yX0_lowersLimitOn, Cond.instanceMethod yX0_lowersLimitOn, Cond.selects RX0 yX0_lowersLimitOn yX0_lowersLimitOn, Cond.initialized RX0, Cond.code yX0_lowersLimitOn cX0_lowersLimitOn 2 (some .boolean), Cond.fieldLink RX0 22 "ParoleCards$Offence" "appealed" "Z", Cond.fieldLink RX0 9 "ParoleCards$Offence" "day" "I", Cond.methodLink RX2 140 yX3_boughtInSpan, Cond.instanceMethod yX3_boughtInSpan, Cond.selects RX3 yX3_boughtInSpan yX3_boughtInSpan, Cond.initialized RX3, Cond.code yX3_boughtInSpan cX3_boughtInSpan 2 (some .int), Cond.fieldLink RX3 15 "ParoleCards$Purse" "lastSpan" "I", Cond.fieldLink RX3 19 "ParoleCards$Purse" "boughtInLastSpan" "I"]
def wsL_limit : List Cond := .codeWith yL_limit cL_limit 4 (some .int) [(0, 9, 12, 21)] :: ((wsL_limit_r1 ++ wsL_limit_r2) ++ wsX50 ++ wsX20 ++ wsX00 ++ wsX30 ++ (vx_atS RX5 180 "java/lang/IndexOutOfBoundsException" ["java/lang/RuntimeException", "java/lang/Exception"]).filter goodWord)
def wsL_paidOut : List Cond := .codeWith yL_paidOut cL_paidOut 4 (some .int) [(0, 9, 12, 21)] :: ([.classLink RL 21 "java/lang/IndexOutOfBoundsException", .methodLink RL 75 yX5_paidOut, .instanceMethod yX5_paidOut, .selects RX5 yX5_paidOut yX5_paidOut, .initialized RX5, .code yX5_paidOut cX5_paidOut 2 (some .int), .fieldLink RX5 166 "ParoleCards$Person" "purse" "LParoleCards$Purse;", .fieldLink RX5 192 "ParoleCards$Purse" "paidOutSum" "I", .methodLink RX5 48 yX5_findPerson, .instanceMethod yX5_findPerson, .selects RX5 yX5_findPerson yX5_findPerson, .code yX5_findPerson cX5_findPerson 3 (some (.object "ParoleCards$Person")), .classLink RX5 176 "java/lang/IndexOutOfBoundsException", .initialized "java/lang/IndexOutOfBoundsException", .fieldLink RX5 11 "ParoleCards" "people" "[LParoleCards$Person;"] ++ wsX20 ++ wsX30 ++ wsX50 ++ (vx_atS RX5 180 "java/lang/IndexOutOfBoundsException" ["java/lang/RuntimeException", "java/lang/Exception"]).filter goodWord)
def wsL_pass_r1 : List Cond := [Cond.classLink RL 13 "java/lang/IllegalArgumentException", Cond.methodLink RL 78 yX5_pass, Cond.instanceMethod yX5_pass, Cond.selects RX5 yX5_pass yX5_pass, Cond.initialized RX5, Cond.code yX5_pass cX5_pass 4 (some .int), Cond.fieldLink RX5 43 "ParoleCards" "today" "I", Cond.methodLink RX5 28 yX5_checkRange, Cond.static yX5_checkRange, Cond.code yX5_checkRange cX5_checkRange 3 none, Cond.classLink RX5 227 "java/lang/IllegalArgumentException", Cond.initialized "java/lang/IllegalArgumentException", Cond.methodLink RX5 195 yX5_workInTheShop, Cond.instanceMethod yX5_workInTheShop, Cond.selects RX5 yX5_workInTheShop yX5_workInTheShop, Cond.code yX5_workInTheShop cX5_workInTheShop 5 none, Cond.fieldLink RX5 11 "ParoleCards" "people" "[LParoleCards$Person;", Cond.methodLink RX5 201 yX2_workOneDay, Cond.instanceMethod yX2_workOneDay, Cond.selects RX2 yX2_workOneDay yX2_workOneDay, Cond.initialized RX2, Cond.code yX2_workOneDay cX2_workOneDay 2 none, Cond.fieldLink RX2 98 "ParoleCards$Person" "order" "LParoleCards$Order;", Cond.fieldLink RX2 119 "ParoleCards$Order" "workLeft" "I"]
def wsL_pass_r2 : List Cond := [Cond.fieldLink RX2 37 "ParoleCards$Person" "workedDays" "I", Cond.fieldLink RX2 24 "ParoleCards$Person" "purse" "LParoleCards$Purse;", Cond.fieldLink RX2 122 "ParoleCards$Order" "wage" "I", Cond.methodLink RX2 116 yX1_isFinished, Cond.instanceMethod yX1_isFinished, Cond.selects RX1 yX1_isFinished yX1_isFinished, Cond.initialized RX1, Cond.code yX1_isFinished cX1_isFinished 1 (some .boolean), Cond.fieldLink RX1 20 "ParoleCards$Order" "workLeft" "I", Cond.methodLink RX2 125 yX3_partWage, Cond.instanceMethod yX3_partWage, Cond.selects RX3 yX3_partWage yX3_partWage, Cond.initialized RX3, Cond.code yX3_partWage cX3_partWage 5 none, Cond.fieldLink RX3 9 "ParoleCards$Purse" "accounts" "[I", Cond.methodLink RX5 204 yX2_leaveFinishedOrder, Cond.instanceMethod yX2_leaveFinishedOrder, Cond.selects RX2 yX2_leaveFinishedOrder yX2_leaveFinishedOrder, Cond.code yX2_leaveFinishedOrder cX2_leaveFinishedOrder 2 none, Cond.methodLink RX2 86 yX2_leaveOrder, Cond.instanceMethod yX2_leaveOrder, Cond.selects RX2 yX2_leaveOrder yX2_leaveOrder, Cond.code yX2_leaveOrder cX2_leaveOrder 2 none, Cond.fieldLink RX2 102 "ParoleCards$Order" "peopleOnIt" "I"]
def wsL_pass_r3 : List Cond := [Cond.fieldLink RX2 107 "ParoleCards$Order" "tools" "LParoleCards$ToolKind;", Cond.fieldLink RX2 111 "ParoleCards$ToolKind" "countedOut" "I", Cond.methodLink RX5 198 yX5_letGoThoseDue, Cond.instanceMethod yX5_letGoThoseDue, Cond.selects RX5 yX5_letGoThoseDue yX5_letGoThoseDue, Cond.code yX5_letGoThoseDue cX5_letGoThoseDue 6 (some .int), Cond.methodLink RX5 207 yX2_isDue, Cond.instanceMethod yX2_isDue, Cond.selects RX2 yX2_isDue yX2_isDue, Cond.code yX2_isDue cX2_isDue 2 (some .boolean), Cond.fieldLink RX2 43 "ParoleCards$Person" "released" "Z", Cond.methodLink RX2 143 yX2_releaseDay, Cond.instanceMethod yX2_releaseDay, Cond.selects RX2 yX2_releaseDay yX2_releaseDay, Cond.code yX2_releaseDay cX2_releaseDay 1 (some .int), Cond.fieldLink RX2 47 "ParoleCards$Person" "releasedOn" "I", Cond.fieldLink RX2 28 "ParoleCards$Person" "admittedOn" "I", Cond.fieldLink RX2 31 "ParoleCards$Person" "term" "I", Cond.methodLink RX2 54 Lib.Math.min.name, Cond.static Lib.Math.min.name, Cond.initialized "java/lang/Math", Cond.code Lib.Math.min.name Lib.Math.min.code 2 (some .int), Cond.fieldLink RX2 60 "ParoleCards$Person" "lostDays" "I", Cond.methodLink RX2 50 yX2_gainedDays]
def wsL_pass_r4 : List Cond := [Cond.instanceMethod yX2_gainedDays, Cond.selects RX2 yX2_gainedDays yX2_gainedDays, Cond.code yX2_gainedDays cX2_gainedDays 1 (some .int), Cond.fieldLink RX2 40 "ParoleCards$Person" "courseDays" "I", Cond.methodLink RX5 210 yX2_letGo, Cond.instanceMethod yX2_letGo, Cond.selects RX2 yX2_letGo yX2_letGo, Cond.code yX2_letGo cX2_letGo 2 none, Cond.methodLink RX2 146 yX3_payOut, Cond.instanceMethod yX3_payOut, Cond.selects RX3 yX3_payOut yX3_payOut, Cond.code yX3_payOut cX3_payOut 1 none, Cond.fieldLink RX3 26 "ParoleCards$Purse" "paidOutSum" "I"]
def wsL_pass : List Cond := .codeWith yL_pass cL_pass 4 (some .int) [(0, 9, 12, 13)] :: ((wsL_pass_r1 ++ (wsL_pass_r2 ++ (wsL_pass_r3 ++ wsL_pass_r4))) ++ wsX50 ++ wsX20 ++ wsX10 ++ wsX30 ++ wsX40 ++ (vx_atS RX5 231 "java/lang/IllegalArgumentException" ["java/lang/RuntimeException", "java/lang/Exception"]).filter goodWord)
def wsL_law0_r1 : List Cond := [Cond.classLink RL 8 RX5, Cond.instantiable RX5 6, Cond.initialized RX5, Cond.classLink RL 82 RX6, Cond.instantiable RX6 28, Cond.initialized RX6, Cond.arrayClass .long, Cond.methodLink RL 81 yX5_init, Cond.instanceMethod yX5_init, Cond.code yX5_init cX5_init 2 none, Cond.methodLink RX5 1 objectInit, Cond.instanceMethod objectInit, Cond.code objectInit ⟨#[0xb1]⟩ 1 none, Cond.classLink RX5 9 RX2, Cond.fieldLink RX5 11 "ParoleCards" "people" "[LParoleCards$Person;", Cond.classLink RX5 15 RX1, Cond.fieldLink RX5 17 "ParoleCards" "orders" "[LParoleCards$Order;", Cond.classLink RX5 21 RX4, Cond.fieldLink RX5 23 "ParoleCards" "toolKinds" "[LParoleCards$ToolKind;", Cond.instantiable RX4 2, Cond.initialized RX4, Cond.instanceMethod yX4_init, Cond.code yX4_init cX4_init 1 none, Cond.methodLink RX4 1 objectInit]
def wsL_law0_r2 : List Cond := [Cond.methodLink RL 84 yX6_init, Cond.instanceMethod yX6_init, Cond.code yX6_init cX6_init 1 none, Cond.methodLink RX6 1 objectInit, Cond.arrayClass .boolean, Cond.fieldLink RX6 7 "ParoleCardsModel" "isOut" "[Z", Cond.arrayClass .int, Cond.fieldLink RX6 13 "ParoleCardsModel" "since" "[I", Cond.fieldLink RX6 17 "ParoleCardsModel" "term" "[I", Cond.fieldLink RX6 20 "ParoleCardsModel" "skills" "[I", Cond.fieldLink RX6 23 "ParoleCardsModel" "regime" "[I", Cond.fieldLink RX6 26 "ParoleCardsModel" "worked" "[I", Cond.fieldLink RX6 29 "ParoleCardsModel" "gained" "[I", Cond.fieldLink RX6 32 "ParoleCardsModel" "papers" "[I", Cond.fieldLink RX6 35 "ParoleCardsModel" "offences" "[I", Cond.fieldLink RX6 38 "ParoleCardsModel" "on" "[I", Cond.fieldLink RX6 41 "ParoleCardsModel" "released" "[I", Cond.fieldLink RX6 44 "ParoleCardsModel" "paid" "[I", Cond.fieldLink RX6 47 "ParoleCardsModel" "account" "[I", Cond.fieldLink RX6 50 "ParoleCardsModel" "span" "[I", Cond.fieldLink RX6 53 "ParoleCardsModel" "bought" "[I", Cond.fieldLink RX6 56 "ParoleCardsModel" "lost" "[I", Cond.fieldLink RX6 59 "ParoleCardsModel" "lostOn" "[I", Cond.fieldLink RX6 62 "ParoleCardsModel" "isLower" "[Z"]
def wsL_law0_r3 : List Cond := [Cond.fieldLink RX6 65 "ParoleCardsModel" "isAppealed" "[Z", Cond.fieldLink RX6 68 "ParoleCardsModel" "tools" "[I", Cond.fieldLink RX6 71 "ParoleCardsModel" "skill" "[I", Cond.fieldLink RX6 74 "ParoleCardsModel" "kind" "[I", Cond.fieldLink RX6 77 "ParoleCardsModel" "left" "[I", Cond.fieldLink RX6 80 "ParoleCardsModel" "wage" "[I", Cond.methodLink RL 85 yL_admit, Cond.static yL_admit, Cond.initialized RL, Cond.codeWith yL_admit cL_admit 5 (some .int) [(0, 10, 13, 13), (0, 10, 17, 15)], Cond.classLink RL 13 "java/lang/IllegalArgumentException", Cond.classLink RL 15 "java/lang/IllegalStateException", Cond.methodLink RL 7 yX5_admit, Cond.instanceMethod yX5_admit, Cond.selects RX5 yX5_admit yX5_admit, Cond.code yX5_admit cX5_admit 4 (some .int), Cond.classLink RX5 36 "java/lang/IllegalStateException", Cond.initialized "java/lang/IllegalStateException", Cond.fieldLink RX5 32 "ParoleCards" "personCount" "I", Cond.instantiable RX2 14, Cond.initialized RX2, Cond.fieldLink RX5 43 "ParoleCards" "today" "I", Cond.methodLink RX5 28 yX5_checkRange, Cond.static yX5_checkRange]
def wsL_law0_r4 : List Cond := [Cond.code yX5_checkRange cX5_checkRange 3 none, Cond.classLink RX5 227 "java/lang/IllegalArgumentException", Cond.initialized "java/lang/IllegalArgumentException", Cond.methodLink RX5 46 yX2_init, Cond.instanceMethod yX2_init, Cond.code yX2_init cX2_init 4 none, Cond.methodLink RX2 3 objectInit, Cond.fieldLink RX2 9 "ParoleCards$Person" "regimeNow" "I", Cond.classLink RX2 15 RX0, Cond.fieldLink RX2 17 "ParoleCards$Person" "offences" "[LParoleCards$Offence;", Cond.classLink RX2 21 RX3, Cond.instantiable RX3 4, Cond.initialized RX3, Cond.fieldLink RX2 24 "ParoleCards$Person" "purse" "LParoleCards$Purse;", Cond.fieldLink RX2 28 "ParoleCards$Person" "admittedOn" "I", Cond.fieldLink RX2 31 "ParoleCards$Person" "term" "I", Cond.fieldLink RX2 34 "ParoleCards$Person" "skills" "I", Cond.instanceMethod yX3_init, Cond.code yX3_init cX3_init 1 none, Cond.methodLink RX3 3 objectInit, Cond.fieldLink RX3 9 "ParoleCards$Purse" "accounts" "[I", Cond.methodLink RL 90 yX6_admit, Cond.instanceMethod yX6_admit, Cond.selects RX6 yX6_admit yX6_admit]
def wsL_law0_r5 : List Cond := [Cond.code yX6_admit cX6_admit 4 (some .int), Cond.fieldLink RX6 87 "ParoleCardsModel" "people" "I", Cond.fieldLink RX6 101 "ParoleCardsModel" "today" "I", Cond.methodLink RX6 90 yX6_lies, Cond.static yX6_lies, Cond.code yX6_lies cX6_lies 3 (some .boolean), Cond.methodLink RX6 97 yX6_fails, Cond.instanceMethod yX6_fails, Cond.selects RX6 yX6_fails yX6_fails, Cond.code yX6_fails cX6_fails 2 (some .boolean), Cond.fieldLink RX6 83 "ParoleCardsModel" "thrown" "I", Cond.methodLink RL 91 yX6_thrown, Cond.instanceMethod yX6_thrown, Cond.selects RX6 yX6_thrown yX6_thrown, Cond.code yX6_thrown cX6_thrown 1 (some .int), Cond.methodLink RL 95 yL_course, Cond.static yL_course, Cond.codeWith yL_course cL_course 6 (some .int) [(0, 12, 15, 21), (0, 12, 19, 13), (0, 12, 23, 15)], Cond.classLink RL 21 "java/lang/IndexOutOfBoundsException", Cond.methodLink RL 17 yX5_course, Cond.instanceMethod yX5_course, Cond.selects RX5 yX5_course yX5_course, Cond.code yX5_course cX5_course 5 (some .int), Cond.methodLink RX5 48 yX5_findPerson]
def wsL_law0_r6 : List Cond := [Cond.instanceMethod yX5_findPerson, Cond.selects RX5 yX5_findPerson yX5_findPerson, Cond.code yX5_findPerson cX5_findPerson 3 (some (.object "ParoleCards$Person")), Cond.classLink RX5 176 "java/lang/IndexOutOfBoundsException", Cond.initialized "java/lang/IndexOutOfBoundsException", Cond.methodLink RX5 52 yX5_checkSkill, Cond.static yX5_checkSkill, Cond.code yX5_checkSkill cX5_checkSkill 1 none, Cond.methodLink RX5 56 yX5_checkIn, Cond.static yX5_checkIn, Cond.code yX5_checkIn cX5_checkIn 1 none, Cond.fieldLink RX5 88 "ParoleCards$Person" "released" "Z", Cond.methodLink RX5 60 yX2_enterCourse, Cond.instanceMethod yX2_enterCourse, Cond.selects RX2 yX2_enterCourse yX2_enterCourse, Cond.code yX2_enterCourse cX2_enterCourse 3 none, Cond.classLink RX2 73 "java/lang/IllegalStateException", Cond.fieldLink RX2 63 "ParoleCards$Person" "courseCount" "I", Cond.fieldLink RX2 40 "ParoleCards$Person" "courseDays" "I", Cond.methodLink RX2 69 yX2_hasRoomForPaper, Cond.instanceMethod yX2_hasRoomForPaper, Cond.selects RX2 yX2_hasRoomForPaper yX2_hasRoomForPaper, Cond.code yX2_hasRoomForPaper cX2_hasRoomForPaper 1 (some .boolean), Cond.fieldLink RX2 66 "ParoleCards$Person" "offenceCount" "I"]
def wsL_law0_r7 : List Cond := [Cond.methodLink RX2 80 yX2_raiseRegime, Cond.instanceMethod yX2_raiseRegime, Cond.selects RX2 yX2_raiseRegime yX2_raiseRegime, Cond.code yX2_raiseRegime cX2_raiseRegime 1 none, Cond.methodLink RX2 54 Lib.Math.min.name, Cond.static Lib.Math.min.name, Cond.initialized "java/lang/Math", Cond.code Lib.Math.min.name Lib.Math.min.code 2 (some .int), Cond.methodLink RX5 64 yX2_releaseDay, Cond.instanceMethod yX2_releaseDay, Cond.selects RX2 yX2_releaseDay yX2_releaseDay, Cond.code yX2_releaseDay cX2_releaseDay 1 (some .int), Cond.fieldLink RX2 43 "ParoleCards$Person" "released" "Z", Cond.fieldLink RX2 47 "ParoleCards$Person" "releasedOn" "I", Cond.fieldLink RX2 60 "ParoleCards$Person" "lostDays" "I", Cond.methodLink RX2 50 yX2_gainedDays, Cond.instanceMethod yX2_gainedDays, Cond.selects RX2 yX2_gainedDays yX2_gainedDays, Cond.code yX2_gainedDays cX2_gainedDays 1 (some .int), Cond.fieldLink RX2 37 "ParoleCards$Person" "workedDays" "I", Cond.methodLink RL 98 yX6_course, Cond.instanceMethod yX6_course, Cond.selects RX6 yX6_course yX6_course, Cond.code yX6_course cX6_course 5 (some .int)]
def wsL_law0_r8 : List Cond := [Cond.methodLink RX6 111 yX6_isPerson, Cond.instanceMethod yX6_isPerson, Cond.selects RX6 yX6_isPerson yX6_isPerson, Cond.code yX6_isPerson cX6_isPerson 2 (some .boolean), Cond.methodLink RX6 114 yX6_raises, Cond.instanceMethod yX6_raises, Cond.selects RX6 yX6_raises yX6_raises, Cond.code yX6_raises cX6_raises 2 none, Cond.methodLink RX6 118 yX6_releaseOf, Cond.instanceMethod yX6_releaseOf, Cond.selects RX6 yX6_releaseOf yX6_releaseOf, Cond.code yX6_releaseOf cX6_releaseOf 4 (some .int), Cond.methodLink RX6 104 yX6_gains, Cond.instanceMethod yX6_gains, Cond.selects RX6 yX6_gains yX6_gains, Cond.code yX6_gains cX6_gains 2 (some .int), Cond.methodLink RX6 108 yX6_loses, Cond.instanceMethod yX6_loses, Cond.selects RX6 yX6_loses yX6_loses, Cond.code yX6_loses cX6_loses 4 (some .int), Cond.methodLink RL 99 yL_offence, Cond.static yL_offence, Cond.codeWith yL_offence cL_offence 5 (some .int) [(0, 10, 13, 21), (0, 10, 17, 13), (0, 10, 21, 15)], Cond.methodLink RL 23 yX5_offence]
def wsL_law0_r9 : List Cond := [Cond.instanceMethod yX5_offence, Cond.selects RX5 yX5_offence yX5_offence, Cond.code yX5_offence cX5_offence 4 (some .int), Cond.methodLink RX5 68 yX2_enterOffence, Cond.instanceMethod yX2_enterOffence, Cond.selects RX2 yX2_enterOffence yX2_enterOffence, Cond.code yX2_enterOffence cX2_enterOffence 5 (some .int), Cond.instantiable RX0 4, Cond.initialized RX0, Cond.methodLink RX2 83 yX0_init, Cond.instanceMethod yX0_init, Cond.code yX0_init cX0_init 4 none, Cond.methodLink RX0 3 objectInit, Cond.fieldLink RX0 9 "ParoleCards$Offence" "day" "I", Cond.fieldLink RX0 15 "ParoleCards$Offence" "days" "I", Cond.fieldLink RX0 18 "ParoleCards$Offence" "loweredRegime" "Z", Cond.methodLink RX2 86 yX2_leaveOrder, Cond.instanceMethod yX2_leaveOrder, Cond.selects RX2 yX2_leaveOrder yX2_leaveOrder, Cond.code yX2_leaveOrder cX2_leaveOrder 2 none, Cond.fieldLink RX2 98 "ParoleCards$Person" "order" "LParoleCards$Order;", Cond.fieldLink RX2 102 "ParoleCards$Order" "peopleOnIt" "I", Cond.fieldLink RX2 107 "ParoleCards$Order" "tools" "LParoleCards$ToolKind;", Cond.fieldLink RX2 111 "ParoleCards$ToolKind" "countedOut" "I"]
def wsL_law0_r10 : List Cond := [Cond.methodLink RL 101 yX6_offence, Cond.instanceMethod yX6_offence, Cond.selects RX6 yX6_offence yX6_offence, Cond.code yX6_offence cX6_offence 4 (some .int), Cond.methodLink RL 102 yL_appeal, Cond.static yL_appeal, Cond.codeWith yL_appeal cL_appeal 5 (some .int) [(0, 10, 13, 21), (0, 10, 17, 15)], Cond.methodLink RL 26 yX5_appeal, Cond.instanceMethod yX5_appeal, Cond.selects RX5 yX5_appeal yX5_appeal, Cond.code yX5_appeal cX5_appeal 5 (some .int), Cond.fieldLink RX5 76 "ParoleCards$Offence" "appealed" "Z", Cond.methodLink RX5 72 yX5_findOffence, Cond.static yX5_findOffence, Cond.code yX5_findOffence cX5_findOffence 3 (some (.object "ParoleCards$Offence")), Cond.fieldLink RX5 215 "ParoleCards$Person" "offences" "[LParoleCards$Offence;", Cond.methodLink RX5 84 yX2_appealOffence, Cond.instanceMethod yX2_appealOffence, Cond.selects RX2 yX2_appealOffence yX2_appealOffence, Cond.code yX2_appealOffence cX2_appealOffence 2 none, Cond.fieldLink RX2 89 "ParoleCards$Offence" "appealed" "Z", Cond.fieldLink RX2 92 "ParoleCards$Offence" "days" "I", Cond.fieldLink RX2 95 "ParoleCards$Offence" "loweredRegime" "Z", Cond.methodLink RL 104 yX6_appeal]
def wsL_law0_r11 : List Cond := [Cond.instanceMethod yX6_appeal, Cond.selects RX6 yX6_appeal yX6_appeal, Cond.code yX6_appeal cX6_appeal 5 (some .int), Cond.methodLink RL 105 yL_release, Cond.static yL_release, Cond.codeWith yL_release cL_release 4 (some .int) [(0, 9, 12, 21)], Cond.methodLink RL 29 yX5_release, Cond.instanceMethod yX5_release, Cond.selects RX5 yX5_release yX5_release, Cond.code yX5_release cX5_release 2 (some .int), Cond.methodLink RL 108 yX6_release, Cond.instanceMethod yX6_release, Cond.selects RX6 yX6_release yX6_release, Cond.code yX6_release cX6_release 2 (some .int), Cond.methodLink RL 109 yL_isIn, Cond.static yL_isIn, Cond.codeWith yL_isIn cL_isIn 4 (some .int) [(0, 16, 19, 21)], Cond.methodLink RL 33 yX5_isIn, Cond.instanceMethod yX5_isIn, Cond.selects RX5 yX5_isIn yX5_isIn, Cond.code yX5_isIn cX5_isIn 2 (some .boolean), Cond.methodLink RL 111 yX6_isIn, Cond.instanceMethod yX6_isIn, Cond.selects RX6 yX6_isIn yX6_isIn]
def wsL_law0_r12 : List Cond := [Cond.code yX6_isIn cX6_isIn 2 (some .boolean), Cond.methodLink RL 112 yL_regime, Cond.static yL_regime, Cond.codeWith yL_regime cL_regime 4 (some .int) [(0, 9, 12, 21)], Cond.methodLink RL 37 yX5_regime, Cond.instanceMethod yX5_regime, Cond.selects RX5 yX5_regime yX5_regime, Cond.code yX5_regime cX5_regime 2 (some .int), Cond.fieldLink RX5 91 "ParoleCards$Person" "regimeNow" "I", Cond.methodLink RL 114 yX6_regime, Cond.instanceMethod yX6_regime, Cond.selects RX6 yX6_regime yX6_regime, Cond.code yX6_regime cX6_regime 2 (some .int), Cond.methodLink RX6 121 yX6_of, Cond.instanceMethod yX6_of, Cond.selects RX6 yX6_of yX6_of, Cond.code yX6_of cX6_of 3 (some .int), Cond.methodLink RL 115 yL_papers, Cond.static yL_papers, Cond.codeWith yL_papers cL_papers 5 (some .int) [(0, 10, 13, 21)], Cond.methodLink RL 40 yX5_papers, Cond.instanceMethod yX5_papers, Cond.selects RX5 yX5_papers yX5_papers, Cond.code yX5_papers cX5_papers 4 (some .int)]
def wsL_law0_r13 : List Cond := [Cond.fieldLink RX5 94 "ParoleCards$Person" "lostDays" "I", Cond.methodLink RX5 97 yX2_gainedDays, Cond.methodLink RL 118 yX6_papers, Cond.instanceMethod yX6_papers, Cond.selects RX6 yX6_papers yX6_papers, Cond.code yX6_papers cX6_papers 3 (some .int), Cond.methodLink RL 119 yL_setTools, Cond.static yL_setTools, Cond.codeWith yL_setTools cL_setTools 5 (some .int) [(0, 10, 13, 21), (0, 10, 17, 13), (0, 10, 21, 15)], Cond.methodLink RL 44 yX5_setTools, Cond.instanceMethod yX5_setTools, Cond.selects RX5 yX5_setTools yX5_setTools, Cond.code yX5_setTools cX5_setTools 5 (some .int), Cond.fieldLink RX5 104 "ParoleCards$ToolKind" "countedOut" "I", Cond.fieldLink RX5 109 "ParoleCards$ToolKind" "count" "I", Cond.methodLink RX5 100 yX5_findTools, Cond.instanceMethod yX5_findTools, Cond.selects RX5 yX5_findTools yX5_findTools, Cond.code yX5_findTools cX5_findTools 3 (some (.object "ParoleCards$ToolKind")), Cond.methodLink RL 121 yX6_setTools, Cond.instanceMethod yX6_setTools, Cond.selects RX6 yX6_setTools yX6_setTools, Cond.code yX6_setTools cX6_setTools 4 (some .int), Cond.methodLink RX6 125 yX6_isKind]
def wsL_law0_r14 : List Cond := [Cond.static yX6_isKind, Cond.code yX6_isKind cX6_isKind 1 (some .boolean), Cond.methodLink RX6 128 yX6_out, Cond.instanceMethod yX6_out, Cond.selects RX6 yX6_out yX6_out, Cond.code yX6_out cX6_out 4 (some .int), Cond.methodLink RL 122 yL_toolsOut, Cond.static yL_toolsOut, Cond.codeWith yL_toolsOut cL_toolsOut 4 (some .int) [(0, 9, 12, 21)], Cond.methodLink RL 47 yX5_toolsOut, Cond.instanceMethod yX5_toolsOut, Cond.selects RX5 yX5_toolsOut yX5_toolsOut, Cond.code yX5_toolsOut cX5_toolsOut 2 (some .int), Cond.methodLink RL 124 yX6_toolsOut, Cond.instanceMethod yX6_toolsOut, Cond.selects RX6 yX6_toolsOut yX6_toolsOut, Cond.code yX6_toolsOut cX6_toolsOut 2 (some .int), Cond.methodLink RL 125 yL_addOrder, Cond.static yL_addOrder, Cond.codeWith yL_addOrder cL_addOrder 7 (some .int) [(0, 14, 17, 21), (0, 14, 21, 13), (0, 14, 25, 15)], Cond.methodLink RL 50 yX5_addOrder, Cond.instanceMethod yX5_addOrder, Cond.selects RX5 yX5_addOrder yX5_addOrder, Cond.code yX5_addOrder cX5_addOrder 7 (some .int)]
def wsL_law0_r15 : List Cond := [Cond.fieldLink RX5 112 "ParoleCards" "orderCount" "I", Cond.instantiable RX1 6, Cond.initialized RX1, Cond.methodLink RX5 117 yX1_init, Cond.instanceMethod yX1_init, Cond.code yX1_init cX1_init 6 none, Cond.methodLink RX1 1 objectInit, Cond.fieldLink RX1 7 "ParoleCards$Order" "number" "I", Cond.fieldLink RX1 13 "ParoleCards$Order" "skill" "I", Cond.fieldLink RX1 16 "ParoleCards$Order" "tools" "LParoleCards$ToolKind;", Cond.fieldLink RX1 20 "ParoleCards$Order" "workLeft" "I", Cond.fieldLink RX1 23 "ParoleCards$Order" "wage" "I", Cond.methodLink RL 128 yX6_addOrder, Cond.instanceMethod yX6_addOrder, Cond.selects RX6 yX6_addOrder yX6_addOrder, Cond.code yX6_addOrder cX6_addOrder 7 (some .int), Cond.fieldLink RX6 94 "ParoleCardsModel" "orders" "I", Cond.methodLink RL 129 yL_assign, Cond.static yL_assign, Cond.codeWith yL_assign cL_assign 5 (some .int) [(0, 10, 13, 21), (0, 10, 17, 15)], Cond.methodLink RL 54 yX5_assign, Cond.instanceMethod yX5_assign, Cond.selects RX5 yX5_assign yX5_assign, Cond.code yX5_assign cX5_assign 5 (some .int)]
def wsL_law0_r16 : List Cond := [Cond.fieldLink RX5 124 "ParoleCards$Person" "order" "LParoleCards$Order;", Cond.fieldLink RX5 130 "ParoleCards$Order" "skill" "I", Cond.fieldLink RX5 152 "ParoleCards$Order" "peopleOnIt" "I", Cond.methodLink RX5 120 yX5_findOrder, Cond.instanceMethod yX5_findOrder, Cond.selects RX5 yX5_findOrder yX5_findOrder, Cond.code yX5_findOrder cX5_findOrder 3 (some (.object "ParoleCards$Order")), Cond.methodLink RX5 133 yX2_hasSkill, Cond.instanceMethod yX2_hasSkill, Cond.selects RX2 yX2_hasSkill yX2_hasSkill, Cond.code yX2_hasSkill cX2_hasSkill 2 (some .boolean), Cond.methodLink RX5 139 yX1_isFinished, Cond.instanceMethod yX1_isFinished, Cond.selects RX1 yX1_isFinished yX1_isFinished, Cond.code yX1_isFinished cX1_isFinished 1 (some .boolean), Cond.methodLink RX5 143 yX1_hasFreeTool, Cond.instanceMethod yX1_hasFreeTool, Cond.selects RX1 yX1_hasFreeTool yX1_hasFreeTool, Cond.code yX1_hasFreeTool cX1_hasFreeTool 1 (some .boolean), Cond.fieldLink RX1 26 "ParoleCards$ToolKind" "countedOut" "I", Cond.fieldLink RX1 31 "ParoleCards$ToolKind" "count" "I", Cond.methodLink RX5 148 yX2_joinOrder, Cond.instanceMethod yX2_joinOrder, Cond.selects RX2 yX2_joinOrder yX2_joinOrder]
def wsL_law0_r17 : List Cond := [Cond.code yX2_joinOrder cX2_joinOrder 2 none, Cond.methodLink RL 131 yX6_assign, Cond.instanceMethod yX6_assign, Cond.selects RX6 yX6_assign yX6_assign, Cond.code yX6_assign cX6_assign 7 (some .int), Cond.methodLink RX6 131 yX6_isOrder, Cond.instanceMethod yX6_isOrder, Cond.selects RX6 yX6_isOrder yX6_isOrder, Cond.code yX6_isOrder cX6_isOrder 2 (some .boolean), Cond.methodLink RL 132 yL_takeOff, Cond.static yL_takeOff, Cond.codeWith yL_takeOff cL_takeOff 4 (some .int) [(0, 9, 12, 21), (0, 9, 15, 15)], Cond.methodLink RL 57 yX5_takeOff, Cond.instanceMethod yX5_takeOff, Cond.selects RX5 yX5_takeOff yX5_takeOff, Cond.code yX5_takeOff cX5_takeOff 4 (some .int), Cond.fieldLink RX5 160 "ParoleCards$Order" "number" "I", Cond.methodLink RX5 157 yX2_leaveOrder, Cond.methodLink RL 134 yX6_takeOff, Cond.instanceMethod yX6_takeOff, Cond.selects RX6 yX6_takeOff yX6_takeOff, Cond.code yX6_takeOff cX6_takeOff 4 (some .int), Cond.methodLink RL 135 yL_orderOf, Cond.static yL_orderOf]
def wsL_law0_r18 : List Cond := [Cond.codeWith yL_orderOf cL_orderOf 4 (some .int) [(0, 9, 12, 21)], Cond.methodLink RL 60 yX5_orderOf, Cond.instanceMethod yX5_orderOf, Cond.selects RX5 yX5_orderOf yX5_orderOf, Cond.code yX5_orderOf cX5_orderOf 3 (some .int), Cond.methodLink RL 137 yX6_orderOf, Cond.instanceMethod yX6_orderOf, Cond.selects RX6 yX6_orderOf yX6_orderOf, Cond.code yX6_orderOf cX6_orderOf 2 (some .int), Cond.methodLink RL 138 yL_left, Cond.static yL_left, Cond.codeWith yL_left cL_left 4 (some .int) [(0, 9, 12, 21)], Cond.methodLink RL 63 yX5_left, Cond.instanceMethod yX5_left, Cond.selects RX5 yX5_left yX5_left, Cond.code yX5_left cX5_left 2 (some .int), Cond.fieldLink RX5 163 "ParoleCards$Order" "workLeft" "I", Cond.methodLink RL 140 yX6_left, Cond.instanceMethod yX6_left, Cond.selects RX6 yX6_left yX6_left, Cond.code yX6_left cX6_left 2 (some .int), Cond.methodLink RL 141 yL_account, Cond.static yL_account, Cond.codeWith yL_account cL_account 5 (some .int) [(0, 10, 13, 21)]]
def wsL_law0_r19 : List Cond := [Cond.methodLink RL 66 yX5_account, Cond.instanceMethod yX5_account, Cond.selects RX5 yX5_account yX5_account, Cond.code yX5_account cX5_account 4 (some .int), Cond.fieldLink RX5 166 "ParoleCards$Person" "purse" "LParoleCards$Purse;", Cond.fieldLink RX5 170 "ParoleCards$Purse" "accounts" "[I", Cond.methodLink RL 143 yX6_account, Cond.instanceMethod yX6_account, Cond.selects RX6 yX6_account yX6_account, Cond.code yX6_account cX6_account 4 (some .int), Cond.methodLink RL 144 yL_buy, Cond.static yL_buy, Cond.codeWith yL_buy cL_buy 5 (some .int) [(0, 10, 13, 21), (0, 10, 17, 13), (0, 10, 21, 15)], Cond.methodLink RL 69 yX5_buy, Cond.instanceMethod yX5_buy, Cond.selects RX5 yX5_buy yX5_buy, Cond.code yX5_buy cX5_buy 5 (some .int), Cond.methodLink RX5 183 yX2_mayStillBuy, Cond.instanceMethod yX2_mayStillBuy, Cond.selects RX2 yX2_mayStillBuy yX2_mayStillBuy, Cond.code yX2_mayStillBuy cX2_mayStillBuy 2 (some .int), Cond.methodLink RX2 133 Lib.Math.max.name, Cond.static Lib.Math.max.name, Cond.code Lib.Math.max.name Lib.Math.max.code 2 (some .int)]
def wsL_law0_r20 : List Cond := [Cond.methodLink RX2 136 yX2_limitOfSpan, Cond.instanceMethod yX2_limitOfSpan, Cond.selects RX2 yX2_limitOfSpan yX2_limitOfSpan, Cond.code yX2_limitOfSpan cX2_limitOfSpan 7 (some .int), Cond.methodLink RX2 129 yX0_lowersLimitOn, Cond.instanceMethod yX0_lowersLimitOn, Cond.selects RX0 yX0_lowersLimitOn yX0_lowersLimitOn, Cond.code yX0_lowersLimitOn cX0_lowersLimitOn 2 (some .boolean), Cond.fieldLink RX0 22 "ParoleCards$Offence" "appealed" "Z", Cond.methodLink RX2 140 yX3_boughtInSpan, Cond.instanceMethod yX3_boughtInSpan, Cond.selects RX3 yX3_boughtInSpan yX3_boughtInSpan, Cond.code yX3_boughtInSpan cX3_boughtInSpan 2 (some .int), Cond.fieldLink RX3 15 "ParoleCards$Purse" "lastSpan" "I", Cond.fieldLink RX3 19 "ParoleCards$Purse" "boughtInLastSpan" "I", Cond.methodLink RX5 189 yX3_spend, Cond.instanceMethod yX3_spend, Cond.selects RX3 yX3_spend yX3_spend, Cond.code yX3_spend cX3_spend 3 none, Cond.methodLink RX3 22 yX3_boughtInSpan, Cond.methodLink RL 146 yX6_buy, Cond.instanceMethod yX6_buy, Cond.selects RX6 yX6_buy yX6_buy, Cond.code yX6_buy cX6_buy 6 (some .int)]
def wsL_law0_r21 : List Cond := [Cond.methodLink RX6 134 yX6_rest, Cond.instanceMethod yX6_rest, Cond.selects RX6 yX6_rest yX6_rest, Cond.code yX6_rest cX6_rest 4 (some .int), Cond.methodLink RL 147 yL_limit, Cond.static yL_limit, Cond.codeWith yL_limit cL_limit 4 (some .int) [(0, 9, 12, 21)], Cond.methodLink RL 72 yX5_limit, Cond.instanceMethod yX5_limit, Cond.selects RX5 yX5_limit yX5_limit, Cond.code yX5_limit cX5_limit 2 (some .int), Cond.methodLink RL 149 yX6_limit, Cond.instanceMethod yX6_limit, Cond.selects RX6 yX6_limit yX6_limit, Cond.code yX6_limit cX6_limit 2 (some .int), Cond.methodLink RL 150 yL_paidOut, Cond.static yL_paidOut, Cond.codeWith yL_paidOut cL_paidOut 4 (some .int) [(0, 9, 12, 21)], Cond.methodLink RL 75 yX5_paidOut, Cond.instanceMethod yX5_paidOut, Cond.selects RX5 yX5_paidOut yX5_paidOut, Cond.code yX5_paidOut cX5_paidOut 2 (some .int), Cond.fieldLink RX5 192 "ParoleCards$Purse" "paidOutSum" "I", Cond.methodLink RL 152 yX6_paidOut]
def wsL_law0_r22 : List Cond := [Cond.instanceMethod yX6_paidOut, Cond.selects RX6 yX6_paidOut yX6_paidOut, Cond.code yX6_paidOut cX6_paidOut 2 (some .int), Cond.methodLink RL 153 yL_pass, Cond.static yL_pass, Cond.codeWith yL_pass cL_pass 4 (some .int) [(0, 9, 12, 13)], Cond.methodLink RL 78 yX5_pass, Cond.instanceMethod yX5_pass, Cond.selects RX5 yX5_pass yX5_pass, Cond.code yX5_pass cX5_pass 4 (some .int), Cond.methodLink RX5 195 yX5_workInTheShop, Cond.instanceMethod yX5_workInTheShop, Cond.selects RX5 yX5_workInTheShop yX5_workInTheShop, Cond.code yX5_workInTheShop cX5_workInTheShop 5 none, Cond.methodLink RX5 201 yX2_workOneDay, Cond.instanceMethod yX2_workOneDay, Cond.selects RX2 yX2_workOneDay yX2_workOneDay, Cond.code yX2_workOneDay cX2_workOneDay 2 none, Cond.fieldLink RX2 119 "ParoleCards$Order" "workLeft" "I", Cond.fieldLink RX2 122 "ParoleCards$Order" "wage" "I", Cond.methodLink RX2 116 yX1_isFinished, Cond.methodLink RX2 125 yX3_partWage, Cond.instanceMethod yX3_partWage, Cond.selects RX3 yX3_partWage yX3_partWage]
def wsL_law0_r23 : List Cond := [Cond.code yX3_partWage cX3_partWage 5 none, Cond.methodLink RX5 204 yX2_leaveFinishedOrder, Cond.instanceMethod yX2_leaveFinishedOrder, Cond.selects RX2 yX2_leaveFinishedOrder yX2_leaveFinishedOrder, Cond.code yX2_leaveFinishedOrder cX2_leaveFinishedOrder 2 none, Cond.methodLink RX5 198 yX5_letGoThoseDue, Cond.instanceMethod yX5_letGoThoseDue, Cond.selects RX5 yX5_letGoThoseDue yX5_letGoThoseDue, Cond.code yX5_letGoThoseDue cX5_letGoThoseDue 6 (some .int), Cond.methodLink RX5 207 yX2_isDue, Cond.instanceMethod yX2_isDue, Cond.selects RX2 yX2_isDue yX2_isDue, Cond.code yX2_isDue cX2_isDue 2 (some .boolean), Cond.methodLink RX2 143 yX2_releaseDay, Cond.methodLink RX5 210 yX2_letGo, Cond.instanceMethod yX2_letGo, Cond.selects RX2 yX2_letGo yX2_letGo, Cond.code yX2_letGo cX2_letGo 2 none, Cond.methodLink RX2 146 yX3_payOut, Cond.instanceMethod yX3_payOut, Cond.selects RX3 yX3_payOut yX3_payOut, Cond.code yX3_payOut cX3_payOut 1 none, Cond.fieldLink RX3 26 "ParoleCards$Purse" "paidOutSum" "I", Cond.methodLink RL 155 yX6_pass]
def wsL_law0_r24 : List Cond := [Cond.instanceMethod yX6_pass, Cond.selects RX6 yX6_pass yX6_pass, Cond.code yX6_pass cX6_pass 5 (some .int), Cond.methodLink RX6 137 yX6_works, Cond.instanceMethod yX6_works, Cond.selects RX6 yX6_works yX6_works, Cond.code yX6_works cX6_works 5 none, Cond.methodLink RX6 140 yX6_goes, Cond.instanceMethod yX6_goes, Cond.selects RX6 yX6_goes yX6_goes, Cond.code yX6_goes cX6_goes 2 (some .int)]
def wsL_law0 : List Cond := (wsL_law0_r1 ++ (wsL_law0_r2 ++ (wsL_law0_r3 ++ (wsL_law0_r4 ++ (wsL_law0_r5 ++ (wsL_law0_r6 ++ (wsL_law0_r7 ++ (wsL_law0_r8 ++ (wsL_law0_r9 ++ (wsL_law0_r10 ++ (wsL_law0_r11 ++ (wsL_law0_r12 ++ (wsL_law0_r13 ++ (wsL_law0_r14 ++ (wsL_law0_r15 ++ (wsL_law0_r16 ++ (wsL_law0_r17 ++ (wsL_law0_r18 ++ (wsL_law0_r19 ++ (wsL_law0_r20 ++ (wsL_law0_r21 ++ (wsL_law0_r22 ++ (wsL_law0_r23 ++ wsL_law0_r24))))))))))))))))))))))) ++ wsX50 ++ wsX60 ++ wsX40 ++ wsX20 ++ wsX30 ++ wsX00 ++ wsX10 ++ ([] : List Cond)
def wsL_law : List Cond := wsL_law0 ++ (vx_atS RX5 40 "java/lang/IllegalStateException" ["java/lang/RuntimeException", "java/lang/Exception"]).filter goodWord ++ (vx_atS RX5 231 "java/lang/IllegalArgumentException" ["java/lang/RuntimeException", "java/lang/Exception"]).filter goodWord ++ (vx_atS RX5 180 "java/lang/IndexOutOfBoundsException" ["java/lang/RuntimeException", "java/lang/Exception"]).filter goodWord ++ (vx_atS RX2 77 "java/lang/IllegalStateException" ["java/lang/RuntimeException", "java/lang/Exception"]).filter goodWord
end
section
/-! The printed row wsL_law_in0 (one decision over all the law's words) runs out of memory in a light round: here it is cut into the printed chunks. -/
set_option maxRecDepth 20000 in
theorem wsL_law_c1 : ∀ w ∈ wsL_law0_r1, w ∈ lw_tbl := fun w h => (goodIn_p wsL_law0_r1 [37, 40, 50] (by decide +kernel) (by decide +kernel) w h).1
set_option maxRecDepth 20000 in
theorem wsL_law_c2 : ∀ w ∈ wsL_law0_r2, w ∈ lw_tbl := fun w h => (goodIn_p wsL_law0_r2 [612] (by decide +kernel) (by decide +kernel) w h).1
set_option maxRecDepth 20000 in
theorem wsL_law_c3 : ∀ w ∈ wsL_law0_r3, w ∈ lw_tbl := fun w h => (goodIn_p wsL_law0_r3 [89] (by decide +kernel) (by decide +kernel) w h).1
set_option maxRecDepth 20000 in
theorem wsL_law_c4 : ∀ w ∈ wsL_law0_r4, w ∈ lw_tbl := fun w h => (goodIn_p wsL_law0_r4 [92, 180, 188] (by decide +kernel) (by decide +kernel) w h).1
set_option maxRecDepth 20000 in
theorem wsL_law_c5 : ∀ w ∈ wsL_law0_r5, w ∈ lw_tbl := fun w h => (goodIn_p wsL_law0_r5 [707, 710, 714, 703, 262] (by decide +kernel) (by decide +kernel) w h).1
set_option maxRecDepth 20000 in
theorem wsL_law_c6 : ∀ w ∈ wsL_law0_r6, w ∈ lw_tbl := fun w h => (goodIn_p wsL_law0_r6 [266, 285, 289, 294, 298] (by decide +kernel) (by decide +kernel) w h).1
set_option maxRecDepth 20000 in
theorem wsL_law_c7 : ∀ w ∈ wsL_law0_r7, w ∈ lw_tbl := fun w h => (goodIn_p wsL_law0_r7 [305, 308, 312, 316, 718] (by decide +kernel) (by decide +kernel) w h).1
set_option maxRecDepth 20000 in
theorem wsL_law_c8 : ∀ w ∈ wsL_law0_r8, w ∈ lw_tbl := fun w h => (goodIn_p wsL_law0_r8 [722, 726, 730, 734, 738] (by decide +kernel) (by decide +kernel) w h).1
set_option maxRecDepth 20000 in
theorem wsL_law_c9 : ∀ w ∈ wsL_law0_r9, w ∈ lw_tbl := fun w h => (goodIn_p wsL_law0_r9 [323, 327, 331, 353] (by decide +kernel) (by decide +kernel) w h).1
set_option maxRecDepth 20000 in
theorem wsL_law_c10 : ∀ w ∈ wsL_law0_r10, w ∈ lw_tbl := fun w h => (goodIn_p wsL_law0_r10 [742, 360, 363, 369] (by decide +kernel) (by decide +kernel) w h).1
set_option maxRecDepth 20000 in
theorem wsL_law_c11 : ∀ w ∈ wsL_law0_r11, w ∈ lw_tbl := fun w h => (goodIn_p wsL_law0_r11 [746, 376, 750, 383] (by decide +kernel) (by decide +kernel) w h).1
set_option maxRecDepth 20000 in
theorem wsL_law_c12 : ∀ w ∈ wsL_law0_r12, w ∈ lw_tbl := fun w h => (goodIn_p wsL_law0_r12 [754, 390, 758, 762, 397] (by decide +kernel) (by decide +kernel) w h).1
set_option maxRecDepth 20000 in
theorem wsL_law_c13 : ∀ w ∈ wsL_law0_r13, w ∈ lw_tbl := fun w h => (goodIn_p wsL_law0_r13 [766, 405, 409, 770] (by decide +kernel) (by decide +kernel) w h).1
set_option maxRecDepth 20000 in
theorem wsL_law_c14 : ∀ w ∈ wsL_law0_r14, w ∈ lw_tbl := fun w h => (goodIn_p wsL_law0_r14 [773, 777, 418, 781, 425] (by decide +kernel) (by decide +kernel) w h).1
set_option maxRecDepth 20000 in
theorem wsL_law_c15 : ∀ w ∈ wsL_law0_r15, w ∈ lw_tbl := fun w h => (goodIn_p wsL_law0_r15 [430, 785, 464] (by decide +kernel) (by decide +kernel) w h).1
set_option maxRecDepth 20000 in
theorem wsL_law_c16 : ∀ w ∈ wsL_law0_r16, w ∈ lw_tbl := fun w h => (goodIn_p wsL_law0_r16 [468, 474, 479, 483] (by decide +kernel) (by decide +kernel) w h).1
set_option maxRecDepth 20000 in
theorem wsL_law_c17 : ∀ w ∈ wsL_law0_r17, w ∈ lw_tbl := fun w h => (goodIn_p wsL_law0_r17 [488, 789, 793, 495, 797] (by decide +kernel) (by decide +kernel) w h).1
set_option maxRecDepth 20000 in
theorem wsL_law_c18 : ∀ w ∈ wsL_law0_r18, w ∈ lw_tbl := fun w h => (goodIn_p wsL_law0_r18 [504, 801, 511, 805] (by decide +kernel) (by decide +kernel) w h).1
set_option maxRecDepth 20000 in
theorem wsL_law_c19 : ∀ w ∈ wsL_law0_r19, w ∈ lw_tbl := fun w h => (goodIn_p wsL_law0_r19 [518, 809, 526, 531, 542] (by decide +kernel) (by decide +kernel) w h).1
set_option maxRecDepth 20000 in
theorem wsL_law_c20 : ∀ w ∈ wsL_law0_r20, w ∈ lw_tbl := fun w h => (goodIn_p wsL_law0_r20 [535, 539, 546, 551, 813] (by decide +kernel) (by decide +kernel) w h).1
set_option maxRecDepth 20000 in
theorem wsL_law_c21 : ∀ w ∈ wsL_law0_r21, w ∈ lw_tbl := fun w h => (goodIn_p wsL_law0_r21 [817, 559, 821, 566] (by decide +kernel) (by decide +kernel) w h).1
set_option maxRecDepth 20000 in
theorem wsL_law_c22 : ∀ w ∈ wsL_law0_r22, w ∈ lw_tbl := fun w h => (goodIn_p wsL_law0_r22 [825, 573, 577, 581] (by decide +kernel) (by decide +kernel) w h).1
set_option maxRecDepth 20000 in
theorem wsL_law_c23 : ∀ w ∈ wsL_law0_r23, w ∈ lw_tbl := fun w h => (goodIn_p wsL_law0_r23 [586, 590, 594, 598, 603, 607] (by decide +kernel) (by decide +kernel) w h).1
set_option maxRecDepth 20000 in
theorem wsL_law_c24 : ∀ w ∈ wsL_law0_r24, w ∈ lw_tbl := fun w h => (goodIn_p wsL_law0_r24 [829, 833, 837] (by decide +kernel) (by decide +kernel) w h).1
set_option maxRecDepth 20000 in
theorem wsL_law_d5 : ∀ w ∈ wsX50, w ∈ lw_tbl := fun w h => (goodIn_p wsX50 [] (by decide +kernel) (by decide +kernel) w h).1
set_option maxRecDepth 20000 in
theorem wsL_law_d6 : ∀ w ∈ wsX60, w ∈ lw_tbl := fun w h => (goodIn_p wsX60 [] (by decide +kernel) (by decide +kernel) w h).1
set_option maxRecDepth 20000 in
theorem wsL_law_d4 : ∀ w ∈ wsX40, w ∈ lw_tbl := fun w h => (goodIn_p wsX40 [] (by decide +kernel) (by decide +kernel) w h).1
set_option maxRecDepth 20000 in
theorem wsL_law_d2 : ∀ w ∈ wsX20, w ∈ lw_tbl := fun w h => (goodIn_p wsX20 [] (by decide +kernel) (by decide +kernel) w h).1
set_option maxRecDepth 20000 in
theorem wsL_law_d3 : ∀ w ∈ wsX30, w ∈ lw_tbl := fun w h => (goodIn_p wsX30 [] (by decide +kernel) (by decide +kernel) w h).1
set_option maxRecDepth 20000 in
theorem wsL_law_d0 : ∀ w ∈ wsX00, w ∈ lw_tbl := fun w h => (goodIn_p wsX00 [] (by decide +kernel) (by decide +kernel) w h).1
set_option maxRecDepth 20000 in
theorem wsL_law_d1 : ∀ w ∈ wsX10, w ∈ lw_tbl := fun w h => (goodIn_p wsX10 [] (by decide +kernel) (by decide +kernel) w h).1
theorem wsL_law_in0 : ∀ w ∈ wsL_law0, w ∈ lw_tbl := fun w h => (List.mem_append.mp h).elim (fun h => ((List.mem_append.mp h).elim (fun h => ((List.mem_append.mp h).elim (fun h => ((List.mem_append.mp h).elim (fun h => ((List.mem_append.mp h).elim (fun h => ((List.mem_append.mp h).elim (fun h => ((List.mem_append.mp h).elim (fun h => ((List.mem_append.mp h).elim (fun h => ((List.mem_append.mp h).elim (wsL_law_c1 w) (fun h => (List.mem_append.mp h).elim (wsL_law_c2 w) (fun h => (List.mem_append.mp h).elim (wsL_law_c3 w) (fun h => (List.mem_append.mp h).elim (wsL_law_c4 w) (fun h => (List.mem_append.mp h).elim (wsL_law_c5 w) (fun h => (List.mem_append.mp h).elim (wsL_law_c6 w) (fun h => (List.mem_append.mp h).elim (wsL_law_c7 w) (fun h => (List.mem_append.mp h).elim (wsL_law_c8 w) (fun h => (List.mem_append.mp h).elim (wsL_law_c9 w) (fun h => (List.mem_append.mp h).elim (wsL_law_c10 w) (fun h => (List.mem_append.mp h).elim (wsL_law_c11 w) (fun h => (List.mem_append.mp h).elim (wsL_law_c12 w) (fun h => (List.mem_append.mp h).elim (wsL_law_c13 w) (fun h => (List.mem_append.mp h).elim (wsL_law_c14 w) (fun h => (List.mem_append.mp h).elim (wsL_law_c15 w) (fun h => (List.mem_append.mp h).elim (wsL_law_c16 w) (fun h => (List.mem_append.mp h).elim (wsL_law_c17 w) (fun h => (List.mem_append.mp h).elim (wsL_law_c18 w) (fun h => (List.mem_append.mp h).elim (wsL_law_c19 w) (fun h => (List.mem_append.mp h).elim (wsL_law_c20 w) (fun h => (List.mem_append.mp h).elim (wsL_law_c21 w) (fun h => (List.mem_append.mp h).elim (wsL_law_c22 w) (fun h => (List.mem_append.mp h).elim (wsL_law_c23 w) (fun h => wsL_law_c24 w h))))))))))))))))))))))))) (wsL_law_d5 w))) (wsL_law_d6 w))) (wsL_law_d4 w))) (wsL_law_d2 w))) (wsL_law_d3 w))) (wsL_law_d0 w))) (wsL_law_d1 w))) (fun h => absurd h List.not_mem_nil)
theorem wsL_law_x0 : ∀ w ∈ (vx_atS RX5 40 "java/lang/IllegalStateException" ["java/lang/RuntimeException", "java/lang/Exception"]).filter goodWord, w ∈ lw_tbl := by decide +kernel
theorem wsL_law_x1 : ∀ w ∈ (vx_atS RX5 231 "java/lang/IllegalArgumentException" ["java/lang/RuntimeException", "java/lang/Exception"]).filter goodWord, w ∈ lw_tbl := by decide +kernel
theorem wsL_law_x2 : ∀ w ∈ (vx_atS RX5 180 "java/lang/IndexOutOfBoundsException" ["java/lang/RuntimeException", "java/lang/Exception"]).filter goodWord, w ∈ lw_tbl := by decide +kernel
theorem wsL_law_x3 : ∀ w ∈ (vx_atS RX2 77 "java/lang/IllegalStateException" ["java/lang/RuntimeException", "java/lang/Exception"]).filter goodWord, w ∈ lw_tbl := by decide +kernel
theorem wsL_law_in : ∀ w ∈ wsL_law, w ∈ lw_tbl := fun w h => (List.mem_append.mp h).elim (fun h => (List.mem_append.mp h).elim (fun h => (List.mem_append.mp h).elim (fun h => (List.mem_append.mp h).elim (fun h => wsL_law_in0 w h) (fun h => wsL_law_x0 w h)) (fun h => wsL_law_x1 w h)) (fun h => wsL_law_x2 w h)) (fun h => wsL_law_x3 w h)
theorem inlX0 : ∀ w ∈ wsX00, w ∈ wsL_law := fun _ h => List.mem_append_left _ (List.mem_append_left _ (List.mem_append_left _ (List.mem_append_left _ (List.mem_append_left _ (List.mem_append_left _ (List.mem_append_right _ h))))))
theorem inX0 : ∀ w ∈ wsX00, w ∈ lw_tbl := fun w h => wsL_law_in w (inlX0 w h)
theorem inlX1 : ∀ w ∈ wsX10, w ∈ wsL_law := fun _ h => List.mem_append_left _ (List.mem_append_left _ (List.mem_append_left _ (List.mem_append_left _ (List.mem_append_left _ (List.mem_append_right _ h)))))
theorem inX1 : ∀ w ∈ wsX10, w ∈ lw_tbl := fun w h => wsL_law_in w (inlX1 w h)
theorem inlX2 : ∀ w ∈ wsX20, w ∈ wsL_law := fun _ h => List.mem_append_left _ (List.mem_append_left _ (List.mem_append_left _ (List.mem_append_left _ (List.mem_append_left _ (List.mem_append_left _ (List.mem_append_left _ (List.mem_append_left _ (List.mem_append_right _ h))))))))
theorem inX2 : ∀ w ∈ wsX20, w ∈ lw_tbl := fun w h => wsL_law_in w (inlX2 w h)
theorem inlX3 : ∀ w ∈ wsX30, w ∈ wsL_law := fun _ h => List.mem_append_left _ (List.mem_append_left _ (List.mem_append_left _ (List.mem_append_left _ (List.mem_append_left _ (List.mem_append_left _ (List.mem_append_left _ (List.mem_append_right _ h)))))))
theorem inX3 : ∀ w ∈ wsX30, w ∈ lw_tbl := fun w h => wsL_law_in w (inlX3 w h)
theorem inlX4 : ∀ w ∈ wsX40, w ∈ wsL_law := fun _ h => List.mem_append_left _ (List.mem_append_left _ (List.mem_append_left _ (List.mem_append_left _ (List.mem_append_left _ (List.mem_append_left _ (List.mem_append_left _ (List.mem_append_left _ (List.mem_append_left _ (List.mem_append_right _ h)))))))))
theorem inX4 : ∀ w ∈ wsX40, w ∈ lw_tbl := fun w h => wsL_law_in w (inlX4 w h)
theorem inlX5 : ∀ w ∈ wsX50, w ∈ wsL_law := fun _ h => List.mem_append_left _ (List.mem_append_left _ (List.mem_append_left _ (List.mem_append_left _ (List.mem_append_left _ (List.mem_append_left _ (List.mem_append_left _ (List.mem_append_left _ (List.mem_append_left _ (List.mem_append_left _ (List.mem_append_left _ (List.mem_append_right _ h)))))))))))
theorem inX5 : ∀ w ∈ wsX50, w ∈ lw_tbl := fun w h => wsL_law_in w (inlX5 w h)
theorem inlX6 : ∀ w ∈ wsX60, w ∈ wsL_law := fun _ h => List.mem_append_left _ (List.mem_append_left _ (List.mem_append_left _ (List.mem_append_left _ (List.mem_append_left _ (List.mem_append_left _ (List.mem_append_left _ (List.mem_append_left _ (List.mem_append_left _ (List.mem_append_left _ (List.mem_append_right _ h))))))))))
theorem inX6 : ∀ w ∈ wsX60, w ∈ lw_tbl := fun w h => wsL_law_in w (inlX6 w h)
theorem inJ9 : ∀ w ∈ wsJ90, w ∈ lw_tbl := by decide +kernel
theorem inJ0 : ∀ w ∈ wsJ00, w ∈ lw_tbl := by decide +kernel
end
section
theorem zz_last : True := trivial
end
