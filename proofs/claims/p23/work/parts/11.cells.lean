section CELLS
variable {cy : Nat → ClassId} {w : zW} {a : Nat}
theorem zE_k1 (h : zK w a = 1) : zE cy w a = .inr (0, zF0 (fun g => zI w g a) (fun g => zP w g a)) := by unfold zE; rw [h]; rfl
theorem zE_k2 (h : zK w a = 2) : zE cy w a = .inr (1, zF1 (fun g => zI w g a) (fun g => zP w g a)) := by unfold zE; rw [h]; rfl
theorem zE_k3 (h : zK w a = 3) : zE cy w a = .inr (2, zF2 (fun g => zI w g a) (fun g => zP w g a)) := by unfold zE; rw [h]; rfl
theorem zE_k4 (h : zK w a = 4) : zE cy w a = .inr (3, zF3 (fun g => zI w g a) (fun g => zP w g a)) := by unfold zE; rw [h]; rfl
theorem zE_k5 (h : zK w a = 5) : zE cy w a = .inr (4, zF4 (fun g => zI w g a) (fun g => zP w g a)) := by unfold zE; rw [h]; rfl
theorem zE_k6 (h : zK w a = 6) : zE cy w a = .inr (5, zF5 (fun g => zI w g a) (fun g => zP w g a)) := by unfold zE; rw [h]; rfl
theorem zE_k8 (h : zK w a = 8) : zE cy w a = .inl (cy 0, zN w a, .inl (zR w a)) := by unfold zE; rw [h]; rfl
theorem zE_k10 (h : zK w a = 10) : zE cy w a = .inl (cy 2, zN w a, .inr (.inr (.inr (.inr (zQ w a))))) := by unfold zE; rw [h]; rfl
theorem zE_k11 (h : zK w a = 11) : zE cy w a = .inl (cy 3, zN w a, .inr (.inr (.inr (.inr (zQ w a))))) := by unfold zE; rw [h]; rfl
theorem zE_k12 (h : zK w a = 12) : zE cy w a = .inl (cy 4, zN w a, .inr (.inr (.inr (.inr (zQ w a))))) := by unfold zE; rw [h]; rfl
theorem zE_k13 (h : zK w a = 13) : zE cy w a = .inl (cy 5, zN w a, .inr (.inr (.inr (.inr (zQ w a))))) := by unfold zE; rw [h]; rfl
theorem zE_k15 (h : zK w a = 15) : zE cy w a = .inl (cy 0, zN w a, .inl (zR w a)) := by unfold zE; rw [h]; rfl
theorem zs_0 (h : zK w a = 1) (v : Int32) : zE cy (zsI w 0 a v) a = .inr (0, (zF0 (fun g => zI w g a) (fun g => zP w g a)).set 0 (.int v)) := by
  rw [zE_k1 (w := zsI w 0 a v) h]
  simp [zsI, zI, zP, z2, va_up]
theorem zs_1 (h : zK w a = 1) (v : Int32) : zE cy (zsI w 1 a v) a = .inr (0, (zF0 (fun g => zI w g a) (fun g => zP w g a)).set 1 (.int v)) := by
  rw [zE_k1 (w := zsI w 1 a v) h]
  simp [zsI, zI, zP, z2, va_up]
theorem zs_2 (h : zK w a = 1) (v : Int32) : zE cy (zsI w 2 a v) a = .inr (0, (zF0 (fun g => zI w g a) (fun g => zP w g a)).set 2 (.int v)) := by
  rw [zE_k1 (w := zsI w 2 a v) h]
  simp [zsI, zI, zP, z2, va_up]
theorem zs_3 (h : zK w a = 1) (v : Int32) : zE cy (zsI w 3 a v) a = .inr (0, (zF0 (fun g => zI w g a) (fun g => zP w g a)).set 3 (.int v)) := by
  rw [zE_k1 (w := zsI w 3 a v) h]
  simp [zsI, zI, zP, z2, va_up]
theorem zs_100 (h : zK w a = 2) (v : Int32) : zE cy (zsI w 100 a v) a = .inr (1, (zF1 (fun g => zI w g a) (fun g => zP w g a)).set 0 (.int v)) := by
  rw [zE_k2 (w := zsI w 100 a v) h]
  simp [zsI, zI, zP, z2, va_up]
theorem zs_101 (h : zK w a = 2) (v : Int32) : zE cy (zsI w 101 a v) a = .inr (1, (zF1 (fun g => zI w g a) (fun g => zP w g a)).set 1 (.int v)) := by
  rw [zE_k2 (w := zsI w 101 a v) h]
  simp [zsI, zI, zP, z2, va_up]
theorem zs_102 (h : zK w a = 2) (v : Option Nat) : zE cy (zsP w 102 a v) a = .inr (1, (zF1 (fun g => zI w g a) (fun g => zP w g a)).set 2 (va_rf v)) := by
  rw [zE_k2 (w := zsP w 102 a v) h]
  simp [zsP, zI, zP, z2, va_up]
theorem zs_103 (h : zK w a = 2) (v : Int32) : zE cy (zsI w 103 a v) a = .inr (1, (zF1 (fun g => zI w g a) (fun g => zP w g a)).set 3 (.int v)) := by
  rw [zE_k2 (w := zsI w 103 a v) h]
  simp [zsI, zI, zP, z2, va_up]
theorem zs_104 (h : zK w a = 2) (v : Int32) : zE cy (zsI w 104 a v) a = .inr (1, (zF1 (fun g => zI w g a) (fun g => zP w g a)).set 4 (.int v)) := by
  rw [zE_k2 (w := zsI w 104 a v) h]
  simp [zsI, zI, zP, z2, va_up]
theorem zs_105 (h : zK w a = 2) (v : Int32) : zE cy (zsI w 105 a v) a = .inr (1, (zF1 (fun g => zI w g a) (fun g => zP w g a)).set 5 (.int v)) := by
  rw [zE_k2 (w := zsI w 105 a v) h]
  simp [zsI, zI, zP, z2, va_up]
theorem zs_200 (h : zK w a = 3) (v : Int32) : zE cy (zsI w 200 a v) a = .inr (2, (zF2 (fun g => zI w g a) (fun g => zP w g a)).set 0 (.int v)) := by
  rw [zE_k3 (w := zsI w 200 a v) h]
  simp [zsI, zI, zP, z2, va_up]
theorem zs_201 (h : zK w a = 3) (v : Int32) : zE cy (zsI w 201 a v) a = .inr (2, (zF2 (fun g => zI w g a) (fun g => zP w g a)).set 1 (.int v)) := by
  rw [zE_k3 (w := zsI w 201 a v) h]
  simp [zsI, zI, zP, z2, va_up]
theorem zs_202 (h : zK w a = 3) (v : Int32) : zE cy (zsI w 202 a v) a = .inr (2, (zF2 (fun g => zI w g a) (fun g => zP w g a)).set 2 (.int v)) := by
  rw [zE_k3 (w := zsI w 202 a v) h]
  simp [zsI, zI, zP, z2, va_up]
theorem zs_203 (h : zK w a = 3) (v : Int32) : zE cy (zsI w 203 a v) a = .inr (2, (zF2 (fun g => zI w g a) (fun g => zP w g a)).set 3 (.int v)) := by
  rw [zE_k3 (w := zsI w 203 a v) h]
  simp [zsI, zI, zP, z2, va_up]
theorem zs_204 (h : zK w a = 3) (v : Int32) : zE cy (zsI w 204 a v) a = .inr (2, (zF2 (fun g => zI w g a) (fun g => zP w g a)).set 4 (.int v)) := by
  rw [zE_k3 (w := zsI w 204 a v) h]
  simp [zsI, zI, zP, z2, va_up]
theorem zs_205 (h : zK w a = 3) (v : Int32) : zE cy (zsI w 205 a v) a = .inr (2, (zF2 (fun g => zI w g a) (fun g => zP w g a)).set 5 (.int v)) := by
  rw [zE_k3 (w := zsI w 205 a v) h]
  simp [zsI, zI, zP, z2, va_up]
theorem zs_206 (h : zK w a = 3) (v : Int32) : zE cy (zsI w 206 a v) a = .inr (2, (zF2 (fun g => zI w g a) (fun g => zP w g a)).set 6 (.int v)) := by
  rw [zE_k3 (w := zsI w 206 a v) h]
  simp [zsI, zI, zP, z2, va_up]
theorem zs_207 (h : zK w a = 3) (v : Option Nat) : zE cy (zsP w 207 a v) a = .inr (2, (zF2 (fun g => zI w g a) (fun g => zP w g a)).set 7 (va_rf v)) := by
  rw [zE_k3 (w := zsP w 207 a v) h]
  simp [zsP, zI, zP, z2, va_up]
theorem zs_208 (h : zK w a = 3) (v : Int32) : zE cy (zsI w 208 a v) a = .inr (2, (zF2 (fun g => zI w g a) (fun g => zP w g a)).set 8 (.int v)) := by
  rw [zE_k3 (w := zsI w 208 a v) h]
  simp [zsI, zI, zP, z2, va_up]
theorem zs_209 (h : zK w a = 3) (v : Int32) : zE cy (zsI w 209 a v) a = .inr (2, (zF2 (fun g => zI w g a) (fun g => zP w g a)).set 9 (.int v)) := by
  rw [zE_k3 (w := zsI w 209 a v) h]
  simp [zsI, zI, zP, z2, va_up]
theorem zs_210 (h : zK w a = 3) (v : Option Nat) : zE cy (zsP w 210 a v) a = .inr (2, (zF2 (fun g => zI w g a) (fun g => zP w g a)).set 10 (va_rf v)) := by
  rw [zE_k3 (w := zsP w 210 a v) h]
  simp [zsP, zI, zP, z2, va_up]
theorem zs_211 (h : zK w a = 3) (v : Option Nat) : zE cy (zsP w 211 a v) a = .inr (2, (zF2 (fun g => zI w g a) (fun g => zP w g a)).set 11 (va_rf v)) := by
  rw [zE_k3 (w := zsP w 211 a v) h]
  simp [zsP, zI, zP, z2, va_up]
theorem zs_212 (h : zK w a = 3) (v : Int32) : zE cy (zsI w 212 a v) a = .inr (2, (zF2 (fun g => zI w g a) (fun g => zP w g a)).set 12 (.int v)) := by
  rw [zE_k3 (w := zsI w 212 a v) h]
  simp [zsI, zI, zP, z2, va_up]
theorem zs_213 (h : zK w a = 3) (v : Int32) : zE cy (zsI w 213 a v) a = .inr (2, (zF2 (fun g => zI w g a) (fun g => zP w g a)).set 13 (.int v)) := by
  rw [zE_k3 (w := zsI w 213 a v) h]
  simp [zsI, zI, zP, z2, va_up]
theorem zs_300 (h : zK w a = 4) (v : Option Nat) : zE cy (zsP w 300 a v) a = .inr (3, (zF3 (fun g => zI w g a) (fun g => zP w g a)).set 0 (va_rf v)) := by
  rw [zE_k4 (w := zsP w 300 a v) h]
  simp [zsP, zI, zP, z2, va_up]
theorem zs_301 (h : zK w a = 4) (v : Int32) : zE cy (zsI w 301 a v) a = .inr (3, (zF3 (fun g => zI w g a) (fun g => zP w g a)).set 1 (.int v)) := by
  rw [zE_k4 (w := zsI w 301 a v) h]
  simp [zsI, zI, zP, z2, va_up]
theorem zs_302 (h : zK w a = 4) (v : Int32) : zE cy (zsI w 302 a v) a = .inr (3, (zF3 (fun g => zI w g a) (fun g => zP w g a)).set 2 (.int v)) := by
  rw [zE_k4 (w := zsI w 302 a v) h]
  simp [zsI, zI, zP, z2, va_up]
theorem zs_303 (h : zK w a = 4) (v : Int32) : zE cy (zsI w 303 a v) a = .inr (3, (zF3 (fun g => zI w g a) (fun g => zP w g a)).set 3 (.int v)) := by
  rw [zE_k4 (w := zsI w 303 a v) h]
  simp [zsI, zI, zP, z2, va_up]
theorem zs_400 (h : zK w a = 5) (v : Int32) : zE cy (zsI w 400 a v) a = .inr (4, (zF4 (fun g => zI w g a) (fun g => zP w g a)).set 0 (.int v)) := by
  rw [zE_k5 (w := zsI w 400 a v) h]
  simp [zsI, zI, zP, z2, va_up]
theorem zs_401 (h : zK w a = 5) (v : Int32) : zE cy (zsI w 401 a v) a = .inr (4, (zF4 (fun g => zI w g a) (fun g => zP w g a)).set 1 (.int v)) := by
  rw [zE_k5 (w := zsI w 401 a v) h]
  simp [zsI, zI, zP, z2, va_up]
theorem zs_500 (h : zK w a = 6) (v : Option Nat) : zE cy (zsP w 500 a v) a = .inr (5, (zF5 (fun g => zI w g a) (fun g => zP w g a)).set 0 (va_rf v)) := by
  rw [zE_k6 (w := zsP w 500 a v) h]
  simp [zsP, zI, zP, z2, va_up]
theorem zs_501 (h : zK w a = 6) (v : Option Nat) : zE cy (zsP w 501 a v) a = .inr (5, (zF5 (fun g => zI w g a) (fun g => zP w g a)).set 1 (va_rf v)) := by
  rw [zE_k6 (w := zsP w 501 a v) h]
  simp [zsP, zI, zP, z2, va_up]
theorem zs_502 (h : zK w a = 6) (v : Option Nat) : zE cy (zsP w 502 a v) a = .inr (5, (zF5 (fun g => zI w g a) (fun g => zP w g a)).set 2 (va_rf v)) := by
  rw [zE_k6 (w := zsP w 502 a v) h]
  simp [zsP, zI, zP, z2, va_up]
theorem zs_503 (h : zK w a = 6) (v : Int32) : zE cy (zsI w 503 a v) a = .inr (5, (zF5 (fun g => zI w g a) (fun g => zP w g a)).set 3 (.int v)) := by
  rw [zE_k6 (w := zsI w 503 a v) h]
  simp [zsI, zI, zP, z2, va_up]
theorem zs_504 (h : zK w a = 6) (v : Int32) : zE cy (zsI w 504 a v) a = .inr (5, (zF5 (fun g => zI w g a) (fun g => zP w g a)).set 4 (.int v)) := by
  rw [zE_k6 (w := zsI w 504 a v) h]
  simp [zsI, zI, zP, z2, va_up]
theorem zs_505 (h : zK w a = 6) (v : Int32) : zE cy (zsI w 505 a v) a = .inr (5, (zF5 (fun g => zI w g a) (fun g => zP w g a)).set 5 (.int v)) := by
  rw [zE_k6 (w := zsI w 505 a v) h]
  simp [zsI, zI, zP, z2, va_up]
theorem zst_8 (h : zK w a = 8) (j : Nat) (x : Int32) : zE cy (zsR w a j x) a = .inl (cy 0, zN w a, .inl (va_up (zR w a) j x)) := by
  rw [zE_k8 (w := zsR w a j x) h]
  have e : zR (zsR w a j x) a = va_up (zR w a) j x := by simp [zR, zsR, z2]
  rw [e]
  rfl
theorem zst_15 (h : zK w a = 15) (j : Nat) (x : Int32) : zE cy (zsR w a j x) a = .inl (cy 0, zN w a, .inl (va_up (zR w a) j x)) := by
  rw [zE_k15 (w := zsR w a j x) h]
  have e : zR (zsR w a j x) a = va_up (zR w a) j x := by simp [zR, zsR, z2]
  rw [e]
  rfl
theorem zst_10 (h : zK w a = 10) (j : Nat) (x : Option Nat) : zE cy (zsQ w a j x) a = .inl (cy 2, zN w a, .inr (.inr (.inr (.inr (va_up (zQ w a) j x))))) := by
  rw [zE_k10 (w := zsQ w a j x) h]
  have e : zQ (zsQ w a j x) a = va_up (zQ w a) j x := by simp [zQ, zsQ, z2]
  rw [e]
  rfl
theorem zst_11 (h : zK w a = 11) (j : Nat) (x : Option Nat) : zE cy (zsQ w a j x) a = .inl (cy 3, zN w a, .inr (.inr (.inr (.inr (va_up (zQ w a) j x))))) := by
  rw [zE_k11 (w := zsQ w a j x) h]
  have e : zQ (zsQ w a j x) a = va_up (zQ w a) j x := by simp [zQ, zsQ, z2]
  rw [e]
  rfl
theorem zst_12 (h : zK w a = 12) (j : Nat) (x : Option Nat) : zE cy (zsQ w a j x) a = .inl (cy 4, zN w a, .inr (.inr (.inr (.inr (va_up (zQ w a) j x))))) := by
  rw [zE_k12 (w := zsQ w a j x) h]
  have e : zQ (zsQ w a j x) a = va_up (zQ w a) j x := by simp [zQ, zsQ, z2]
  rw [e]
  rfl
theorem zst_13 (h : zK w a = 13) (j : Nat) (x : Option Nat) : zE cy (zsQ w a j x) a = .inl (cy 5, zN w a, .inr (.inr (.inr (.inr (va_up (zQ w a) j x))))) := by
  rw [zE_k13 (w := zsQ w a j x) h]
  have e : zQ (zsQ w a j x) a = va_up (zQ w a) j x := by simp [zQ, zsQ, z2]
  rw [e]
  rfl
theorem znew_0 (q : Nat) : zE cy (zNew w q 1 0) q = .inr (0, [.int 0, .int 0, .int 0, .int 0]) := by
  have h : zK (zNew w q 1 0) q = 1 := by simp [zNew, zK, va_up]
  rw [zE_k1 h]
  simp [zNew, zI, zP, va_rf]
theorem zdf_0 : ∀ j, j < 4 → defaultValue (tyX0 j) = vp_V [.int 0, .int 0, .int 0, .int 0] j := by
  intro j hj
  rcases (show j = 0 ∨ j = 1 ∨ j = 2 ∨ j = 3 by omega) with rfl | rfl | rfl | rfl <;> rfl
theorem znew_1 (q : Nat) : zE cy (zNew w q 2 0) q = .inr (1, [.int 0, .int 0, .null, .int 0, .int 0, .int 0]) := by
  have h : zK (zNew w q 2 0) q = 2 := by simp [zNew, zK, va_up]
  rw [zE_k2 h]
  simp [zNew, zI, zP, va_rf]
theorem zdf_1 : ∀ j, j < 6 → defaultValue (tyX1 j) = vp_V [.int 0, .int 0, .null, .int 0, .int 0, .int 0] j := by
  intro j hj
  rcases (show j = 0 ∨ j = 1 ∨ j = 2 ∨ j = 3 ∨ j = 4 ∨ j = 5 by omega) with rfl | rfl | rfl | rfl | rfl | rfl <;> rfl
theorem znew_2 (q : Nat) : zE cy (zNew w q 3 0) q = .inr (2, [.int 0, .int 0, .int 0, .int 0, .int 0, .int 0, .int 0, .null, .int 0, .int 0, .null, .null, .int 0, .int 0]) := by
  have h : zK (zNew w q 3 0) q = 3 := by simp [zNew, zK, va_up]
  rw [zE_k3 h]
  simp [zNew, zI, zP, va_rf]
theorem zdf_2 : ∀ j, j < 14 → defaultValue (tyX2 j) = vp_V [.int 0, .int 0, .int 0, .int 0, .int 0, .int 0, .int 0, .null, .int 0, .int 0, .null, .null, .int 0, .int 0] j := by
  intro j hj
  rcases (show j = 0 ∨ j = 1 ∨ j = 2 ∨ j = 3 ∨ j = 4 ∨ j = 5 ∨ j = 6 ∨ j = 7 ∨ j = 8 ∨ j = 9 ∨ j = 10 ∨ j = 11 ∨ j = 12 ∨ j = 13 by omega) with rfl | rfl | rfl | rfl | rfl | rfl | rfl | rfl | rfl | rfl | rfl | rfl | rfl | rfl <;> rfl
theorem znew_3 (q : Nat) : zE cy (zNew w q 4 0) q = .inr (3, [.null, .int 0, .int 0, .int 0]) := by
  have h : zK (zNew w q 4 0) q = 4 := by simp [zNew, zK, va_up]
  rw [zE_k4 h]
  simp [zNew, zI, zP, va_rf]
theorem zdf_3 : ∀ j, j < 4 → defaultValue (tyX3 j) = vp_V [.null, .int 0, .int 0, .int 0] j := by
  intro j hj
  rcases (show j = 0 ∨ j = 1 ∨ j = 2 ∨ j = 3 by omega) with rfl | rfl | rfl | rfl <;> rfl
theorem znew_4 (q : Nat) : zE cy (zNew w q 5 0) q = .inr (4, [.int 0, .int 0]) := by
  have h : zK (zNew w q 5 0) q = 5 := by simp [zNew, zK, va_up]
  rw [zE_k5 h]
  simp [zNew, zI, zP, va_rf]
theorem zdf_4 : ∀ j, j < 2 → defaultValue (tyX4 j) = vp_V [.int 0, .int 0] j := by
  intro j hj
  rcases (show j = 0 ∨ j = 1 by omega) with rfl | rfl <;> rfl
theorem znew_5 (q : Nat) : zE cy (zNew w q 6 0) q = .inr (5, [.null, .null, .null, .int 0, .int 0, .int 0]) := by
  have h : zK (zNew w q 6 0) q = 6 := by simp [zNew, zK, va_up]
  rw [zE_k6 h]
  simp [zNew, zI, zP, va_rf]
theorem zdf_5 : ∀ j, j < 6 → defaultValue (tyX5 j) = vp_V [.null, .null, .null, .int 0, .int 0, .int 0] j := by
  intro j hj
  rcases (show j = 0 ∨ j = 1 ∨ j = 2 ∨ j = 3 ∨ j = 4 ∨ j = 5 by omega) with rfl | rfl | rfl | rfl | rfl | rfl <;> rfl
theorem znew_a8 (q n : Nat) : zE cy (zNew w q 8 n) q = .inl (cy 0, n, .inl (fun _ => 0)) := by
  have h : zK (zNew w q 8 n) q = 8 := by simp [zNew, zK, va_up]
  rw [zE_k8 h]
  have e1 : zN (zNew w q 8 n) q = n := by simp [zNew, zN, va_up]
  have e2 : zR (zNew w q 8 n) q = fun _ => 0 := by funext i; simp [zNew, zR]
  rw [e1, e2]
theorem znew_a15 (q n : Nat) : zE cy (zNew w q 15 n) q = .inl (cy 0, n, .inl (fun _ => 0)) := by
  have h : zK (zNew w q 15 n) q = 15 := by simp [zNew, zK, va_up]
  rw [zE_k15 h]
  have e1 : zN (zNew w q 15 n) q = n := by simp [zNew, zN, va_up]
  have e2 : zR (zNew w q 15 n) q = fun _ => 0 := by funext i; simp [zNew, zR]
  rw [e1, e2]
theorem znew_a10 (q n : Nat) : zE cy (zNew w q 10 n) q = .inl (cy 2, n, .inr (.inr (.inr (.inr (fun _ => none))))) := by
  have h : zK (zNew w q 10 n) q = 10 := by simp [zNew, zK, va_up]
  rw [zE_k10 h]
  have e1 : zN (zNew w q 10 n) q = n := by simp [zNew, zN, va_up]
  have e2 : zQ (zNew w q 10 n) q = fun _ => none := by funext i; simp [zNew, zQ]
  rw [e1, e2]
theorem znew_a11 (q n : Nat) : zE cy (zNew w q 11 n) q = .inl (cy 3, n, .inr (.inr (.inr (.inr (fun _ => none))))) := by
  have h : zK (zNew w q 11 n) q = 11 := by simp [zNew, zK, va_up]
  rw [zE_k11 h]
  have e1 : zN (zNew w q 11 n) q = n := by simp [zNew, zN, va_up]
  have e2 : zQ (zNew w q 11 n) q = fun _ => none := by funext i; simp [zNew, zQ]
  rw [e1, e2]
theorem znew_a12 (q n : Nat) : zE cy (zNew w q 12 n) q = .inl (cy 4, n, .inr (.inr (.inr (.inr (fun _ => none))))) := by
  have h : zK (zNew w q 12 n) q = 12 := by simp [zNew, zK, va_up]
  rw [zE_k12 h]
  have e1 : zN (zNew w q 12 n) q = n := by simp [zNew, zN, va_up]
  have e2 : zQ (zNew w q 12 n) q = fun _ => none := by funext i; simp [zNew, zQ]
  rw [e1, e2]
theorem znew_a13 (q n : Nat) : zE cy (zNew w q 13 n) q = .inl (cy 5, n, .inr (.inr (.inr (.inr (fun _ => none))))) := by
  have h : zK (zNew w q 13 n) q = 13 := by simp [zNew, zK, va_up]
  rw [zE_k13 h]
  have e1 : zN (zNew w q 13 n) q = n := by simp [zNew, zN, va_up]
  have e2 : zQ (zNew w q 13 n) q = fun _ => none := by funext i; simp [zNew, zQ]
  rw [e1, e2]
/-- an old address in a world with a new one -/
theorem zNew_old {q k n b : Nat} (hq : zK w q = 0) (hb : zK w b ≠ 0) : b ≠ q ∧ zK (zNew w q k n) b = zK w b ∧ (∀ g, zI (zNew w q k n) g b = zI w g b) ∧ (∀ g, zP (zNew w q k n) g b = zP w g b) ∧ zN (zNew w q k n) b = zN w b ∧ zR (zNew w q k n) b = zR w b ∧ zQ (zNew w q k n) b = zQ w b ∧ zJ (zNew w q k n) b = zJ w b := by
  have h : b ≠ q := fun e => hb (by rw [e]; exact hq)
  refine ⟨h, ?_, fun g => ?_, fun g => ?_, ?_, ?_, ?_, ?_⟩ <;> simp [zNew, zK, zI, zP, zN, zR, zQ, zJ, va_up, h]
theorem zNew_new {q k n : Nat} : zK (zNew w q k n) q = k ∧ (∀ g, zI (zNew w q k n) g q = 0) ∧ (∀ g, zP (zNew w q k n) g q = none) ∧ zN (zNew w q k n) q = n ∧ (∀ i, zR (zNew w q k n) q i = 0) ∧ (∀ i, zQ (zNew w q k n) q i = none) ∧ (∀ i, zJ (zNew w q k n) q i = 0) := by
  refine ⟨?_, fun g => ?_, fun g => ?_, ?_, fun i => ?_, fun i => ?_, fun i => ?_⟩ <;> simp [zNew, zK, zI, zP, zN, zR, zQ, zJ, va_up]
end CELLS
