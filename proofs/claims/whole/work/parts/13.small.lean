theorem zk0 {w : zW} {a k : Nat} (h : zK w a = k) (hk : k ≠ 0) : zK w a ≠ 0 := by rw [h]; exact hk
theorem zEn {cy : Nat → ClassId} {w w' : zW} {a b n : Nat} {cA : ClassId} {f : (Nat → Int32) ⊕ (Nat → Int64) ⊕ (Nat → UInt32) ⊕ (Nat → UInt64) ⊕ (Nat → Option Nat)} (he : zE cy w a = .inl (cA, zN w' b, f)) (hn : zN w' b = n) : zE cy w a = .inl (cA, n, f) := by rw [he, hn]
theorem zR_same {w : zW} {a j : Nat} {v : Int32} : zR (zsR w a j v) a j = v := z2_same _ _ _ _
theorem zB1 : narrow .boolean (.int 1) = .int 1 := rfl
theorem zB0 : narrow .boolean (.int 0) = .int 0 := rfl
