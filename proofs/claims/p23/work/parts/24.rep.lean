/-! HOW THE CLASS'S OBJECTS HOLD THE REFERENCE'S STATE B. ad t i: the address of the i-th thing of sort t: 0 person, 1 purse, 2 accounts, 3 row of offences, 4 offence (place 50 * person + number), 5 order, 6 kind of tool, 7 the three rows of the house. -/
def rObj (w : zW) (x : Nat) (ad : Nat → Nat → Nat) (B : mB) : Prop := (zK w x = 6 ∧ zI w 503 x = B 1 0 ∧ zI w 504 x = B 22 0 ∧ zI w 505 x = B 0 0) ∧ (zP w 500 x = some (ad 7 0) ∧ zP w 501 x = some (ad 7 1) ∧ zP w 502 x = some (ad 7 2)) ∧
  (zK w (ad 7 0) = 12 ∧ zN w (ad 7 0) = 10 ∧ zK w (ad 7 1) = 11 ∧ zN w (ad 7 1) = 8 ∧ zK w (ad 7 2) = 13 ∧ zN w (ad 7 2) = 3)
def rRow (w : zW) (ad : Nat → Nat → Nat) (B : mB) : Prop := (∀ i, i < 10 → zQ w (ad 7 0) i = if i < nP B then some (ad 0 i) else none) ∧ (∀ j, j < 8 → zQ w (ad 7 1) j = if j < nO B then some (ad 5 j) else none) ∧ (∀ k, k < 3 → zQ w (ad 7 2) k = some (ad 6 k))
def rTool (w : zW) (ad : Nat → Nat → Nat) (B : mB) : Prop := ∀ k, k < 3 → zK w (ad 6 k) = 5 ∧ zI w 400 (ad 6 k) = B 21 k ∧ zI w 401 (ad 6 k) = sOut B (nI k) (nP B)
def rPk (w : zW) (ad : Nat → Nat → Nat) (B : mB) : Prop := ∀ i, i < nP B → zK w (ad 0 i) = 3 ∧ zP w 207 (ad 0 i) = some (ad 3 i) ∧ zP w 211 (ad 0 i) = some (ad 1 i) ∧ zK w (ad 3 i) = 10 ∧ zN w (ad 3 i) = 50 ∧ zK w (ad 1 i) = 4 ∧ zP w 300 (ad 1 i) = some (ad 2 i) ∧ zK w (ad 2 i) = 15 ∧ zN w (ad 2 i) = 4
def rPi (w : zW) (ad : Nat → Nat → Nat) (B : mB) : Prop := (∀ i, i < nP B → zI w 200 (ad 0 i) = B 3 i) ∧ (∀ i, i < nP B → zI w 201 (ad 0 i) = B 4 i) ∧ (∀ i, i < nP B → zI w 202 (ad 0 i) = B 5 i) ∧ (∀ i, i < nP B → zI w 203 (ad 0 i) = B 6 i) ∧ (∀ i, i < nP B → zI w 204 (ad 0 i) = B 7 i) ∧ (∀ i, i < nP B → zI w 205 (ad 0 i) = B 9 i - B 10 i) ∧ (∀ i, i < nP B → zI w 206 (ad 0 i) = B 8 i) ∧ (∀ i, i < nP B → zI w 208 (ad 0 i) = B 10 i) ∧ (∀ i, i < nP B → zI w 209 (ad 0 i) = sLoss B i) ∧ (∀ i, i < nP B → zI w 212 (ad 0 i) = B 2 i) ∧ (∀ i, i < nP B → zI w 213 (ad 0 i) = B 12 i)
def rPo (w : zW) (ad : Nat → Nat → Nat) (B : mB) : Prop := ∀ i, i < nP B → zP w 210 (ad 0 i) = if B 11 i = -1 then none else some (ad 5 (ox B i))
def rPu (w : zW) (ad : Nat → Nat → Nat) (B : mB) : Prop := (∀ i, i < nP B → zI w 301 (ad 1 i) = B 15 i) ∧ (∀ i, i < nP B → zI w 302 (ad 1 i) = B 16 i) ∧ (∀ i, i < nP B → zI w 303 (ad 1 i) = B 13 i) ∧ (∀ i, i < nP B → ∀ j, j < 4 → zR w (ad 2 i) j = B 14 (4 * i + j))
def rOf (w : zW) (ad : Nat → Nat → Nat) (B : mB) : Prop := (∀ i, i < nP B → ∀ k, k < 50 → zQ w (ad 3 i) k = if k < oc B i then some (ad 4 (50 * i + k)) else none) ∧
  (∀ i, i < nP B → ∀ k, k < oc B i → zK w (ad 4 (50 * i + k)) = 1 ∧ zI w 0 (ad 4 (50 * i + k)) = B 18 (50 * i + k) ∧ zI w 1 (ad 4 (50 * i + k)) = B 17 (50 * i + k) ∧ zI w 2 (ad 4 (50 * i + k)) = B 19 (50 * i + k) ∧ zI w 3 (ad 4 (50 * i + k)) = B 20 (50 * i + k))
def rOr (w : zW) (ad : Nat → Nat → Nat) (B : mB) : Prop := ∀ j, j < nO B → zK w (ad 5 j) = 2 ∧ zI w 100 (ad 5 j) = nI j ∧ zI w 101 (ad 5 j) = B 23 j ∧ zP w 102 (ad 5 j) = some (ad 6 (kx B j)) ∧ zI w 103 (ad 5 j) = B 26 j ∧ zI w 104 (ad 5 j) = B 25 j ∧ zI w 105 (ad 5 j) = sOn B (nI j) (nP B)
/-- things of a sort lie apart -/
def rInj (ad : Nat → Nat → Nat) (B : mB) : Prop := (∀ t, t < 4 → ∀ i j, i < nP B → j < nP B → ad t i = ad t j → i = j) ∧ (∀ i j k n, i < nP B → j < nP B → k < oc B i → n < oc B j → ad 4 (50 * i + k) = ad 4 (50 * j + n) → i = j ∧ k = n) ∧ (∀ i j, i < nO B → j < nO B → ad 5 i = ad 5 j → i = j) ∧ (∀ i j, i < 3 → j < 3 → ad 6 i = ad 6 j → i = j)
def rAll (w : zW) (x : Nat) (ad : Nat → Nat → Nat) (B : mB) : Prop := rObj w x ad B ∧ rRow w ad B ∧ rTool w ad B ∧ rPk w ad B ∧ rPi w ad B ∧ rPo w ad B ∧ rPu w ad B ∧ rOf w ad B ∧ rOr w ad B ∧ rInj ad B
def Rep (w : zW) (x : Nat) (B : mB) : Prop := ∃ ad : Nat → Nat → Nat, rAll w x ad B
/-- what the class's calls leave as it was: the reference's object and rows, the law's long row -/
def cFr (w0 w : zW) : Prop := ∀ b, (zK w0 b = 7 ∨ zK w0 b = 8 ∨ zK w0 b = 9 ∨ zK w0 b = 14) → zK w b = zK w0 b ∧ zN w b = zN w0 b ∧ zR w b = zR w0 b ∧ zJ w b = zJ w0 b ∧ (∀ g, zI w g b = zI w0 g b) ∧ (∀ g, zP w g b = zP w0 g b)
theorem cFr_rf (w : zW) : cFr w w := fun _ _ => ⟨rfl, rfl, rfl, rfl, fun _ => rfl, fun _ => rfl⟩
theorem cFr_tr {w0 w1 w2 : zW} (h : cFr w0 w1) (k : cFr w1 w2) : cFr w0 w2 := by
  intro b hb
  obtain ⟨a1, a2, a3, a4, a5, a6⟩ := h b hb
  obtain ⟨b1, b2, b3, b4, b5, b6⟩ := k b (by rw [a1]; exact hb)
  exact ⟨b1.trans a1, b2.trans a2, b3.trans a3, b4.trans a4, fun g => (b5 g).trans (a5 g), fun g => (b6 g).trans (a6 g)⟩
/-- one place of a family of fields is set, and the same place of the state -/
theorem zrep_up {α : Type} {n : Nat} {F : Nat → α} {G : Nat → α} {ad : Nat → Nat} (h : ∀ i, i < n → F (ad i) = G i) (inj : ∀ i j, i < n → j < n → ad i = ad j → i = j) {i0 : Nat} (hi : i0 < n) (v : α) : ∀ i, i < n → va_up F (ad i0) v (ad i) = va_up G i0 v i := by
  intro i hin
  by_cases e : i = i0
  · subst e; simp [va_up]
  · have e2 : ad i ≠ ad i0 := fun z => e (inj i i0 hin hi z)
    simp [va_up, e, e2, h i hin]
/-- what more the state keeps -/
def mInv2 (B : mB) : Prop := (∀ i, i < nP B → (B 6 i = 0 ∨ B 6 i = 1 ∨ B 6 i = 2) ∧ (B 2 i = 0 ∨ B 2 i = 1) ∧ (0 ≤ B 16 i ∧ B 16 i ≤ 50)) ∧ (∀ j, j < nO B → 0 ≤ B 25 j)
