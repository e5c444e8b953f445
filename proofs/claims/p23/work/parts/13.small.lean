theorem zk0 {w : zW} {a k : Nat} (h : zK w a = k) (hk : k ≠ 0) : zK w a ≠ 0 := by rw [h]; exact hk
theorem zEn {cy : Nat → ClassId} {w w' : zW} {a b n : Nat} {cA : ClassId} {f : (Nat → Int32) ⊕ (Nat → Int64) ⊕ (Nat → UInt32) ⊕ (Nat → UInt64) ⊕ (Nat → Option Nat)} (he : zE cy w a = .inl (cA, zN w' b, f)) (hn : zN w' b = n) : zE cy w a = .inl (cA, n, f) := by rw [he, hn]
theorem zR_same {w : zW} {a j : Nat} {v : Int32} : zR (zsR w a j v) a j = v := z2_same _ _ _ _
/-! THE OPERATIONS, on the reference's state -/
abbrev mB : Type := Nat → Nat → Int32
def vLies (v a b : Int32) : Bool := decide (¬ v < a) && decide (¬ b < v)
def ix (x : Int32) : Nat := x.toNatClampNeg
theorem ix_nI {n : Nat} (h : n < 2 ^ 31) : ix (nI n) = n := nI_clamp h
def nP (B : mB) : Nat := ix (B 1 0)
def nO (B : mB) : Nat := ix (B 22 0)
def oc (B : mB) (i : Nat) : Nat := ix (B 10 i)
def pp (B : mB) (i : Nat) : Nat := ix (B 9 i)
def ox (B : mB) (i : Nat) : Nat := ix (B 11 i)
def kx (B : mB) (j : Nat) : Nat := ix (B 24 j)
def sx (B : mB) (j : Nat) : Nat := ix (B 23 j)
/-- the numbers are places -/
def mInv (B : mB) : Prop := (nP B ≤ 10 ∧ B 1 0 = nI (nP B)) ∧ (nO B ≤ 8 ∧ B 22 0 = nI (nO B)) ∧
  (∀ i, i < nP B → B 10 i = nI (oc B i) ∧ B 9 i = nI (pp B i) ∧ oc B i ≤ pp B i ∧ pp B i ≤ 50 ∧ (B 11 i = -1 ∨ (B 11 i = nI (ox B i) ∧ ox B i < nO B))) ∧
  (∀ j, j < nO B → B 24 j = nI (kx B j) ∧ kx B j < 3 ∧ B 23 j = nI (sx B j) ∧ sx B j < 4)
def vP (B : mB) (its : Int32) : Bool := vLies its 0 (B 1 0 - 1)
def vO (B : mB) (its : Int32) : Bool := vLies its 0 (B 22 0 - 1)
theorem vLies_nat {v : Int32} {n : Nat} (hn : n < 2 ^ 30) : vLies v 0 (nI n - 1) = true ↔ ∃ i, i < n ∧ v = nI i := by
  have h1 : (nI n - 1).toInt = (n : Int) - 1 := pk_sub_toInt (b := 1) hn (by decide)
  unfold vLies
  simp only [Bool.and_eq_true, decide_eq_true_eq, Int32.lt_iff_toInt_lt, h1, Int32.toInt_zero]
  constructor
  · intro ⟨h2, h3⟩
    obtain ⟨j, hj, rfl⟩ := nI_of (x := v) (by rw [Int32.lt_iff_toInt_lt, Int32.toInt_zero]; exact h2)
    rw [nI_toInt hj] at h3
    exact ⟨j, by omega, rfl⟩
  · intro ⟨i, hi, e⟩
    subst e
    rw [nI_toInt (by omega)]
    omega
theorem vP_iff {B : mB} (h : mInv B) {its : Int32} : vP B its = true ↔ ∃ i, i < nP B ∧ its = nI i := by
  unfold vP; rw [h.1.2]; exact vLies_nat (by have := h.1.1; omega)
theorem vO_iff {B : mB} (h : mInv B) {its : Int32} : vO B its = true ↔ ∃ i, i < nO B ∧ its = nI i := by
  unfold vO; rw [h.2.1.2]; exact vLies_nat (by have := h.2.1.1; omega)
theorem vP_split {B : mB} (h : mInv B) (its : Int32) : (∃ i, its = nI i ∧ i < nP B ∧ i < 10 ∧ vP B (nI i) = true ∧ ix (nI i) = i) ∨ vP B its = false := by
  by_cases c : vP B its = true
  · obtain ⟨i, hi, rfl⟩ := (vP_iff h).mp c
    have := h.1.1
    exact Or.inl ⟨i, rfl, hi, by omega, c, ix_nI (by omega)⟩
  · exact Or.inr (by simpa using c)
theorem vO_split {B : mB} (h : mInv B) (its : Int32) : (∃ i, its = nI i ∧ i < nO B ∧ i < 8 ∧ vO B (nI i) = true ∧ ix (nI i) = i) ∨ vO B its = false := by
  by_cases c : vO B its = true
  · obtain ⟨i, hi, rfl⟩ := (vO_iff h).mp c
    have := h.2.1.1
    exact Or.inl ⟨i, rfl, hi, by omega, c, ix_nI (by omega)⟩
  · exact Or.inr (by simpa using c)
theorem vLies_const {v : Int32} {n : Nat} (hn : n < 2 ^ 30) {m : Int32} (hm : m = nI n - 1) : (∃ i, v = nI i ∧ i < n ∧ vLies (nI i) 0 m = true ∧ ix (nI i) = i) ∨ vLies v 0 m = false := by
  subst hm
  by_cases c : vLies v 0 (nI n - 1) = true
  · obtain ⟨i, hi, rfl⟩ := (vLies_nat hn).mp c
    exact Or.inl ⟨i, rfl, hi, c, ix_nI (by omega)⟩
  · exact Or.inr (by simpa using c)
def sGain (B : mB) (i : Nat) : Int32 := B 7 i / 5 + B 8 i
/-- what the first k offences from place b on lose -/
def sLo (B : mB) (b : Nat) : Nat → Int32
  | 0 => 0
  | k + 1 => sLo B b k + (if B 20 (b + k) = 0 then B 17 (b + k) else 0)
def sLoss (B : mB) (i : Nat) : Int32 := sLo B (50 * i) (oc B i)
def sRel (B : mB) (i : Nat) : Int32 := if B 2 i = 0 then B 3 i + B 4 i - (if sGain B i < B 4 i / 4 then sGain B i else B 4 i / 4) + sLoss B i else B 12 i
def sRaise (B : mB) (i : Nat) : mB := z2 B 6 i (B 6 i + (if B 6 i < 2 then 1 else 0))
/-- how many of the first k people have a tool of kind d -/
def sOut (B : mB) (d : Int32) : Nat → Int32
  | 0 => 0
  | k + 1 => sOut B d k + (if B 11 k = -1 then 0 else if B 24 (ox B k) = d then 1 else 0)
/-- how many of the first k people are on the order o -/
def sOn (B : mB) (o : Int32) : Nat → Int32
  | 0 => 0
  | k + 1 => sOn B o k + (if B 11 k = o then 1 else 0)
/-- the span's limit, the first k offences looked at -/
def sMost (B : mB) (i : Nat) : Nat → Int32
  | 0 => 20 * B 6 i + 10
  | k + 1 => sMost B i k - (if B 20 (50 * i + k) = 0 ∧ B 0 0 - B 18 (50 * i + k) ≤ 29 then 5 else 0)
def sBought (B : mB) (i : Nat) : Int32 := if B 15 i = B 0 0 / 7 then B 16 i else 0
def sTop (B : mB) (i : Nat) : Int32 := if sMost B i (oc B i) < 0 then 0 else sMost B i (oc B i)
def sRest (B : mB) (i : Nat) : Int32 := if B 2 i = 0 then (if sTop B i < sBought B i then 0 else sTop B i - sBought B i) else 0

section ZFOR
variable {p : Program} {l : Launch} {e : Env} {R : Room} {s : State} {m : MethodId} {args : Array Value} {below : List Frame} {meth : Method} {c : Code} {H : Heap} {locs : List Loc} {cells slots : Nat} {Q : State → Prop} {pc : Nat} {ls : Array Slot} {base : Nat}
/-- a loop of N rounds at its head -/
theorem z_for {S : Type} {HB : S → Heap → Prop} {nL : Nat} (N : Nat) (I : Nat → S → Prop) (loc : Nat → S → List (Nat × Value)) (k0 : Nat) (hk0 : k0 ≤ N) {u : S} (hI : I k0 u) (hH : HB u H) (hS : va_S (fun q : Nat => base ≤ q) s.heap H locs) (hl : lv_has ls nL (loc k0 u))
    (hend : ∀ (u : S) (H : Heap) (locs : List Loc) (ls : Array Slot), I N u → HB u H → va_S (fun q : Nat => base ≤ q) s.heap H locs → lv_has ls nL (loc N u) → W p l e R s m args below meth c H locs cells slots Q (F0 m pc ls []))
    (hstep : ∀ k : Nat, k < N → (∀ (u : S) (H : Heap) (locs : List Loc) (ls : Array Slot), I (k + 1) u → HB u H → va_S (fun q : Nat => base ≤ q) s.heap H locs → lv_has ls nL (loc (k + 1) u) → W p l e R s m args below meth c H locs cells slots Q (F0 m pc ls [])) →
      ∀ (u : S) (H : Heap) (locs : List Loc) (ls : Array Slot), I k u → HB u H → va_S (fun q : Nat => base ≤ q) s.heap H locs → lv_has ls nL (loc k u) → W p l e R s m args below meth c H locs cells slots Q (F0 m pc ls [])) :
    W p l e R s m args below meth c H locs cells slots Q (F0 m pc ls []) := by
  have key : ∀ (n k : Nat), k + n = N → ∀ (u : S) (H : Heap) (locs : List Loc) (ls : Array Slot), I k u → HB u H → va_S (fun q : Nat => base ≤ q) s.heap H locs → lv_has ls nL (loc k u) → W p l e R s m args below meth c H locs cells slots Q (F0 m pc ls []) := by
    intro n
    induction n with
    | zero => intro k hk u H locs ls h1 h2 h3 h4; rw [Nat.add_zero] at hk; subst hk; exact hend u H locs ls h1 h2 h3 h4
    | succ n ih => intro k hk u H locs ls h1 h2 h3 h4; exact hstep k (by omega) (fun u H locs ls a b c d => ih (k + 1) (by omega) u H locs ls a b c d) u H locs ls h1 h2 h3 h4
  exact key (N - k0) k0 (by omega) u H locs ls hI hH hS hl
end ZFOR
theorem i30 {x : Int32} : (30 ≤ x) ↔ ¬ x ≤ 29 := by
  rw [Int32.le_iff_toInt_le, Int32.le_iff_toInt_le, show (30 : Int32).toInt = 30 from rfl, show (29 : Int32).toInt = 29 from rfl]; omega
