theorem i32_1 (S a b t : Int32) : S + (a - b) + t = S + t + (a - b) := by grind
theorem i32_2 (S a b : Int32) : S + a = S + b + (a - b) := by grind
theorem i32_3 (S b : Int32) : S + (0 - b) = S - b := by grind
theorem i32_4 (S b : Int32) : S + (b - 0) = S + b := by grind
theorem i32_5 (a b : Int32) : a + 1 - (b + 1) = a - b := by grind
theorem i32_6 (S t b : Int32) : S - b + t = S + t - b := by grind
theorem i32_7 (S b : Int32) : S + 0 = S + b - b := by grind
theorem nI_inj {a b : Nat} (ha : a < 2 ^ 31) (hb : b < 2 ^ 31) (h : nI a = nI b) : a = b := by
  have h2 := congrArg ix h
  rwa [ix_nI ha, ix_nI hb] at h2
theorem nI_neg {a : Nat} (ha : a < 2 ^ 31) : ¬ (-1 : Int32) = nI a := by
  intro h
  have h2 := congrArg Int32.toInt h
  rw [nI_toInt ha] at h2
  have h3 : (-1 : Int32).toInt = -1 := rfl
  omega
def tmO (B : mB) (d u : Int32) : Int32 := if u = -1 then 0 else if B 24 (ix u) = d then 1 else 0
def tmN (o u : Int32) : Int32 := if u = o then 1 else 0
theorem sOut_set {B : mB} {i : Nat} {v : Int32} (d : Int32) (n : Nat) : sOut (z2 B 11 i v) d n = if i < n then sOut B d n + (tmO B d v - tmO B d (B 11 i)) else sOut B d n := by
  induction n with
  | zero => simp [sOut]
  | succ n ih =>
    show sOut (z2 B 11 i v) d n + tmO B d (z2 B 11 i v 11 n) = if i < n + 1 then sOut B d n + tmO B d (B 11 n) + (tmO B d v - tmO B d (B 11 i)) else sOut B d n + tmO B d (B 11 n)
    rw [ih]
    rcases Nat.lt_trichotomy i n with c | c | c
    · rw [if_pos c, if_pos (by omega), z2_ne2 _ _ _ _ (by omega : n ≠ i)]; exact i32_1 _ _ _ _
    · subst c; rw [if_neg (by omega), if_pos (by omega), z2_same]; exact i32_2 _ _ _
    · rw [if_neg (by omega), if_neg (by omega), z2_ne2 _ _ _ _ (by omega : n ≠ i)]
theorem sOn_set {B : mB} {i : Nat} {v : Int32} (o : Int32) (n : Nat) : sOn (z2 B 11 i v) o n = if i < n then sOn B o n + (tmN o v - tmN o (B 11 i)) else sOn B o n := by
  induction n with
  | zero => simp [sOn]
  | succ n ih =>
    show sOn (z2 B 11 i v) o n + tmN o (z2 B 11 i v 11 n) = if i < n + 1 then sOn B o n + tmN o (B 11 n) + (tmN o v - tmN o (B 11 i)) else sOn B o n + tmN o (B 11 n)
    rw [ih]
    rcases Nat.lt_trichotomy i n with c | c | c
    · rw [if_pos c, if_pos (by omega), z2_ne2 _ _ _ _ (by omega : n ≠ i)]; exact i32_1 _ _ _ _
    · subst c; rw [if_neg (by omega), if_pos (by omega), z2_same]; exact i32_2 _ _ _
    · rw [if_neg (by omega), if_neg (by omega), z2_ne2 _ _ _ _ (by omega : n ≠ i)]
theorem sLo_out {B : mB} {f a b : Nat} {v : Int32} (n : Nat) (h : ∀ k, k < n → b + k ≠ a) : sLo (z2 B f a v) b n = sLo B b n := by
  induction n with
  | zero => rfl
  | succ n ih =>
    have e1 : z2 B f a v 17 (b + n) = B 17 (b + n) := z2_ne2 _ _ _ _ (h n (by omega))
    have e2 : z2 B f a v 20 (b + n) = B 20 (b + n) := z2_ne2 _ _ _ _ (h n (by omega))
    show sLo (z2 B f a v) b n + (if z2 B f a v 20 (b + n) = 0 then z2 B f a v 17 (b + n) else 0) = _
    rw [ih (fun k hk => h k (by omega)), e1, e2]; rfl
theorem sLo_set {B : mB} {b k : Nat} (hz : B 20 (b + k) = 0) (n : Nat) : sLo (z2 B 20 (b + k) 1) b n = if k < n then sLo B b n - B 17 (b + k) else sLo B b n := by
  induction n with
  | zero => simp [sLo]
  | succ n ih =>
    show sLo (z2 B 20 (b + k) 1) b n + (if z2 B 20 (b + k) 1 20 (b + n) = 0 then B 17 (b + n) else 0) = if k < n + 1 then sLo B b n + (if B 20 (b + n) = 0 then B 17 (b + n) else 0) - B 17 (b + k) else sLo B b n + (if B 20 (b + n) = 0 then B 17 (b + n) else 0)
    rw [ih]
    rcases Nat.lt_trichotomy k n with c | c | c
    · rw [z2_ne2 _ _ _ _ (by omega : b + n ≠ b + k), if_pos c, if_pos (show k < n + 1 by omega)]; exact i32_6 _ _ _
    · subst c; rw [z2_same, if_neg (show ¬ k < k by omega), if_pos (show k < k + 1 by omega), if_neg (show ¬ (1 : Int32) = 0 by decide), if_pos hz]; exact i32_7 _ _
    · rw [z2_ne2 _ _ _ _ (by omega : b + n ≠ b + k), if_neg (show ¬ k < n by omega), if_neg (show ¬ k < n + 1 by omega)]
theorem sOut_24 {B : mB} {a : Nat} {v : Int32} (d : Int32) (n : Nat) (h : ∀ i, i < n → B 11 i = -1 ∨ ox B i ≠ a) : sOut (z2 B 24 a v) d n = sOut B d n := by
  induction n with
  | zero => rfl
  | succ n ih =>
    show sOut (z2 B 24 a v) d n + (if B 11 n = -1 then 0 else if z2 B 24 a v 24 (ox B n) = d then 1 else 0) = sOut B d n + (if B 11 n = -1 then 0 else if B 24 (ox B n) = d then 1 else 0)
    rw [ih (fun k hk => h k (by omega))]
    rcases h n (by omega) with c | c
    · rw [if_pos c, if_pos c]
    · rw [z2_ne2 _ _ _ _ c]
theorem sOn_zero {B : mB} {o : Int32} (n : Nat) (h : ∀ i, i < n → ¬ B 11 i = o) : sOn B o n = 0 := by
  induction n with
  | zero => rfl
  | succ n ih =>
    show sOn B o n + (if B 11 n = o then 1 else 0) = 0
    rw [ih (fun k hk => h k (by omega)), if_neg (h n (by omega))]; rfl

theorem ra_on {w : zW} {x : Nat} {ad : Nat → Nat → Nat} {B : mB} {i j : Nat} {p' : Option Nat} {v' d : Int32} (h : rAll w x ad B) (hinv : mInv B) (hi : i < nP B) (hj : j < nO B) (hp : p' = if v' = -1 then none else some (ad 5 (ix v')))
    (hd : ∀ k, k < 3 → tmO B (nI k) v' - tmO B (nI k) (B 11 i) = if k = kx B j then d else 0) (hn : ∀ n, n < nO B → tmN (nI n) v' - tmN (nI n) (B 11 i) = if n = j then d else 0) :
    rAll (zsI (zsI (zsP w 210 (ad 0 i) p') 105 (ad 5 j) (zI w 105 (ad 5 j) + d)) 401 (ad 6 (kx B j)) (zI w 401 (ad 6 (kx B j)) + d)) x ad (z2 B 11 i v') := by
  obtain ⟨hO, ⟨qA, qO, qT⟩, hT, hPk, ⟨h200, h201, h202, h203, h204, h205, h206, h208, h209, h212, h213⟩, hPo, ⟨h301, h302, h303, hAc⟩, ⟨hOq, hOf⟩, hOr, hInj⟩ := h
  have hk3 := (mInv_kx hinv hj).2
  refine ⟨hO, ⟨qA, qO, qT⟩, fun k hk => ⟨(hT k hk).1, (hT k hk).2.1, ?_⟩, hPk, ⟨h200, h201, h202, h203, h204, h205, h206, h208, fun k hk => (h209 k hk).trans (sLoss_z2 (by decide) (by decide) (by decide) _).symm, h212, h213⟩, fun k hk => ?_, ⟨h301, h302, h303, hAc⟩, ⟨hOq, hOf⟩, fun n hn9 => ⟨(hOr n hn9).1, (hOr n hn9).2.1, (hOr n hn9).2.2.1, (hOr n hn9).2.2.2.1, (hOr n hn9).2.2.2.2.1, (hOr n hn9).2.2.2.2.2.1, ?_⟩, hInj⟩
  · show z2 w.2.1 401 (ad 6 (kx B j)) (zI w 401 (ad 6 (kx B j)) + d) 401 (ad 6 k) = sOut (z2 B 11 i v') (nI k) (nP B)
    rw [sOut_set, if_pos hi, hd k hk, z2_at]
    by_cases e : k = kx B j
    · subst e; rw [if_pos rfl, if_pos rfl, (hT _ hk).2.2]
    · have e2 : ad 6 k ≠ ad 6 (kx B j) := fun z => e (hInj.2.2.2 _ _ hk hk3 z)
      rw [if_neg e, if_neg e2, Int32.add_zero]; exact (hT k hk).2.2
  · show z2 w.2.2.1 210 (ad 0 i) p' 210 (ad 0 k) = if z2 B 11 i v' 11 k = -1 then none else some (ad 5 (ix (z2 B 11 i v' 11 k)))
    rw [z2_at, z2_at]
    by_cases e : k = i
    · subst e; rw [if_pos rfl, if_pos rfl]; exact hp
    · have e2 : ad 0 k ≠ ad 0 i := fun z => e (hInj.1 0 (by decide) _ _ hk hi z)
      rw [if_neg e, if_neg e2]; exact hPo k hk
  · show z2 w.2.1 105 (ad 5 j) (zI w 105 (ad 5 j) + d) 105 (ad 5 n) = sOn (z2 B 11 i v') (nI n) (nP B)
    rw [sOn_set, if_pos hi, hn n hn9, z2_at]
    by_cases e : n = j
    · subst e; rw [if_pos rfl, if_pos rfl, (hOr n hn9).2.2.2.2.2.2]
    · have e2 : ad 5 n ≠ ad 5 j := fun z => e (hInj.2.2.1 _ _ hn9 hj z)
      rw [if_neg e, if_neg e2, Int32.add_zero]; exact (hOr n hn9).2.2.2.2.2.2
theorem i32_m (a : Int32) : a + (-1) = a - 1 := by grind
theorem ra_leave {w : zW} {x : Nat} {ad : Nat → Nat → Nat} {B : mB} {i : Nat} (h : rAll w x ad B) (hinv : mInv B) (hi : i < nP B) (hon : ¬ B 11 i = -1) :
    rAll (zsP (zsI (zsI w 105 (ad 5 (ox B i)) (zI w 105 (ad 5 (ox B i)) - 1)) 401 (ad 6 (kx B (ox B i))) (zI w 401 (ad 6 (kx B (ox B i))) - 1)) 210 (ad 0 i) none) x ad (z2 B 11 i (-1)) := by
  obtain ⟨he, hj⟩ := (hinv.2.2.1 i hi).2.2.2.2.resolve_left hon
  have h8 := hinv.2.1.1
  have hk := mInv_kx hinv hj
  have key := ra_on (d := -1) (v' := -1) (p' := none) h hinv hi hj rfl ?_ ?_
  · rw [i32_m, i32_m] at key; exact key
  · intro k hk9
    have e1 : tmO B (nI k) (-1) = 0 := if_pos rfl
    have e2 : tmO B (nI k) (B 11 i) = if k = kx B (ox B i) then 1 else 0 := by
      unfold tmO; rw [if_neg hon]
      show (if B 24 (ox B i) = nI k then (1 : Int32) else 0) = _
      rw [hk.1]
      by_cases e : k = kx B (ox B i)
      · rw [if_pos e, if_pos (by rw [e])]
      · rw [if_neg e, if_neg (fun z => e (nI_inj (by omega) (by omega) z).symm)]
    rw [e1, e2]; split <;> rfl
  · intro n hn
    have e1 : tmN (nI n) (-1) = 0 := if_neg (nI_neg (by omega))
    have e2 : tmN (nI n) (B 11 i) = if n = ox B i then 1 else 0 := by
      unfold tmN; rw [he]
      by_cases e : n = ox B i
      · rw [if_pos e, if_pos (by rw [e])]
      · rw [if_neg e, if_neg (fun z => e (nI_inj (by omega) (by omega) z).symm)]
    rw [e1, e2]; split <;> rfl
theorem ra_join {w : zW} {x : Nat} {ad : Nat → Nat → Nat} {B : mB} {i j : Nat} (h : rAll w x ad B) (hinv : mInv B) (hi : i < nP B) (hj : j < nO B) (hoff : B 11 i = -1) :
    rAll (zsI (zsI (zsP w 210 (ad 0 i) (some (ad 5 j))) 105 (ad 5 j) (zI w 105 (ad 5 j) + 1)) 401 (ad 6 (kx B j)) (zI w 401 (ad 6 (kx B j)) + 1)) x ad (z2 B 11 i (nI j)) := by
  have h8 := hinv.2.1.1
  have hk := mInv_kx hinv hj
  have hne : ¬ nI j = -1 := fun z => nI_neg (by omega) z.symm
  refine ra_on (d := 1) (v' := nI j) h hinv hi hj ?_ ?_ ?_
  · rw [if_neg hne, ix_nI (by omega)]
  · intro k hk9
    have e1 : tmO B (nI k) (B 11 i) = 0 := if_pos hoff
    have e2 : tmO B (nI k) (nI j) = if k = kx B j then 1 else 0 := by
      unfold tmO; rw [if_neg hne, ix_nI (by omega), hk.1]
      by_cases e : k = kx B j
      · rw [if_pos e, if_pos (by rw [e])]
      · rw [if_neg e, if_neg (fun z => e (nI_inj (by omega) (by omega) z).symm)]
    rw [e1, e2]; split <;> rfl
  · intro n hn
    have e1 : tmN (nI n) (B 11 i) = 0 := by unfold tmN; rw [hoff]; exact if_neg (nI_neg (by omega))
    have e2 : tmN (nI n) (nI j) = if n = j then 1 else 0 := by
      unfold tmN
      by_cases e : n = j
      · rw [if_pos e, if_pos (by rw [e])]
      · rw [if_neg e, if_neg (fun z => e (nI_inj (by omega) (by omega) z).symm)]
    rw [e1, e2]; split <;> rfl
theorem ra_appeal {w : zW} {x : Nat} {ad : Nat → Nat → Nat} {B : mB} {i k : Nat} (h : rAll w x ad B) (hinv : mInv B) (hi : i < nP B) (hk : k < oc B i) (hz : B 20 (50 * i + k) = 0) :
    rAll (zsI (zsI w 3 (ad 4 (50 * i + k)) 1) 209 (ad 0 i) (zI w 209 (ad 0 i) - zI w 1 (ad 4 (50 * i + k)))) x ad (z2 B 20 (50 * i + k) 1) := by
  obtain ⟨hO, ⟨qA, qO, qT⟩, hT, hPk, ⟨h200, h201, h202, h203, h204, h205, h206, h208, h209, h212, h213⟩, hPo, ⟨h301, h302, h303, hAc⟩, ⟨hOq, hOf⟩, hOr, hInj⟩ := h
  refine ⟨hO, ⟨qA, qO, qT⟩, fun k hk => ⟨(hT k hk).1, (hT k hk).2.1, (hT k hk).2.2.trans (sOut_z2 (by decide) (by decide) _ _).symm⟩, hPk, ⟨h200, h201, h202, h203, h204, h205, h206, h208, fun n hn => ?_, h212, h213⟩, hPo, ⟨h301, h302, h303, hAc⟩, ⟨hOq, fun n hn b hb => ⟨(hOf n hn b hb).1, (hOf n hn b hb).2.1, (hOf n hn b hb).2.2.1, (hOf n hn b hb).2.2.2.1, ?_⟩⟩, fun n hn9 => ⟨(hOr n hn9).1, (hOr n hn9).2.1, (hOr n hn9).2.2.1, (hOr n hn9).2.2.2.1, (hOr n hn9).2.2.2.2.1, (hOr n hn9).2.2.2.2.2.1, (hOr n hn9).2.2.2.2.2.2.trans (sOn_z2 (by decide) _ _).symm⟩, hInj⟩
  · show z2 w.2.1 209 (ad 0 i) (zI w 209 (ad 0 i) - zI w 1 (ad 4 (50 * i + k))) 209 (ad 0 n) = sLo (z2 B 20 (50 * i + k) 1) (50 * n) (oc B n)
    rw [z2_at]
    by_cases e : n = i
    · subst e; rw [if_pos rfl, sLo_set hz, if_pos hk, h209 n hn, (hOf n hn k hk).2.2.1]; rfl
    · have e2 : ad 0 n ≠ ad 0 i := fun z => e (hInj.1 0 (by decide) _ _ hn hi z)
      have a1 := (mInv_oc50 hinv hi).2; have a2 := (mInv_oc50 hinv hn).2
      rw [if_neg e2, sLo_out _ (fun b hb => by omega)]; exact h209 n hn
  · show z2 w.2.1 3 (ad 4 (50 * i + k)) 1 3 (ad 4 (50 * n + b)) = z2 B 20 (50 * i + k) 1 20 (50 * n + b)
    rw [z2_at, z2_at]
    by_cases e : 50 * n + b = 50 * i + k
    · rw [e, if_pos rfl, if_pos rfl]
    · have e2 : ad 4 (50 * n + b) ≠ ad 4 (50 * i + k) := fun z => e (by obtain ⟨z1, z2⟩ := hInj.2.1 _ _ _ _ hn hi hb hk z; rw [z1, z2])
      rw [if_neg e, if_neg e2]; exact (hOf n hn b hb).2.2.2.2
theorem ra_17 {w : zW} {x : Nat} {ad : Nat → Nat → Nat} {B : mB} {i : Nat} (h : rAll w x ad B) (hinv : mInv B) (h50 : oc B i < 50) (v : Int32) : rAll w x ad (z2 B 17 (50 * i + oc B i) v) := by
  obtain ⟨hO, ⟨qA, qO, qT⟩, hT, hPk, ⟨h200, h201, h202, h203, h204, h205, h206, h208, h209, h212, h213⟩, hPo, ⟨h301, h302, h303, hAc⟩, ⟨hOq, hOf⟩, hOr, hInj⟩ := h
  have hne : ∀ n b, n < nP B → b < oc B n → 50 * n + b ≠ 50 * i + oc B i := by
    intro n b hn hb e
    have a2 := (mInv_oc50 hinv hn).2
    have e3 : n = i := by omega
    subst e3; omega
  exact ⟨hO, ⟨qA, qO, qT⟩, fun k hk => ⟨(hT k hk).1, (hT k hk).2.1, (hT k hk).2.2.trans (sOut_z2 (by decide) (by decide) _ _).symm⟩, hPk, ⟨h200, h201, h202, h203, h204, h205, h206, h208, fun n hn => (h209 n hn).trans (sLo_out _ (fun b hb => hne n b hn hb)).symm, h212, h213⟩, hPo, ⟨h301, h302, h303, hAc⟩, ⟨hOq, fun n hn b hb => ⟨(hOf n hn b hb).1, (hOf n hn b hb).2.1, ((hOf n hn b hb).2.2.1.trans (z2_ne2 _ _ _ _ (hne n b hn hb)).symm), (hOf n hn b hb).2.2.2.1, (hOf n hn b hb).2.2.2.2⟩⟩, fun n hn9 => ⟨(hOr n hn9).1, (hOr n hn9).2.1, (hOr n hn9).2.2.1, (hOr n hn9).2.2.2.1, (hOr n hn9).2.2.2.2.1, (hOr n hn9).2.2.2.2.2.1, (hOr n hn9).2.2.2.2.2.2.trans (sOn_z2 (by decide) _ _).symm⟩, hInj⟩
theorem ra_18 {w : zW} {x : Nat} {ad : Nat → Nat → Nat} {B : mB} {i : Nat} (h : rAll w x ad B) (hinv : mInv B) (h50 : oc B i < 50) (v : Int32) : rAll w x ad (z2 B 18 (50 * i + oc B i) v) := by
  obtain ⟨hO, ⟨qA, qO, qT⟩, hT, hPk, ⟨h200, h201, h202, h203, h204, h205, h206, h208, h209, h212, h213⟩, hPo, ⟨h301, h302, h303, hAc⟩, ⟨hOq, hOf⟩, hOr, hInj⟩ := h
  have hne : ∀ n b, n < nP B → b < oc B n → 50 * n + b ≠ 50 * i + oc B i := by
    intro n b hn hb e
    have a2 := (mInv_oc50 hinv hn).2
    have e3 : n = i := by omega
    subst e3; omega
  exact ⟨hO, ⟨qA, qO, qT⟩, fun k hk => ⟨(hT k hk).1, (hT k hk).2.1, (hT k hk).2.2.trans (sOut_z2 (by decide) (by decide) _ _).symm⟩, hPk, ⟨h200, h201, h202, h203, h204, h205, h206, h208, fun n hn => (h209 n hn).trans (sLo_out _ (fun b hb => hne n b hn hb)).symm, h212, h213⟩, hPo, ⟨h301, h302, h303, hAc⟩, ⟨hOq, fun n hn b hb => ⟨(hOf n hn b hb).1, ((hOf n hn b hb).2.1.trans (z2_ne2 _ _ _ _ (hne n b hn hb)).symm), (hOf n hn b hb).2.2.1, (hOf n hn b hb).2.2.2.1, (hOf n hn b hb).2.2.2.2⟩⟩, fun n hn9 => ⟨(hOr n hn9).1, (hOr n hn9).2.1, (hOr n hn9).2.2.1, (hOr n hn9).2.2.2.1, (hOr n hn9).2.2.2.2.1, (hOr n hn9).2.2.2.2.2.1, (hOr n hn9).2.2.2.2.2.2.trans (sOn_z2 (by decide) _ _).symm⟩, hInj⟩
theorem ra_19 {w : zW} {x : Nat} {ad : Nat → Nat → Nat} {B : mB} {i : Nat} (h : rAll w x ad B) (hinv : mInv B) (h50 : oc B i < 50) (v : Int32) : rAll w x ad (z2 B 19 (50 * i + oc B i) v) := by
  obtain ⟨hO, ⟨qA, qO, qT⟩, hT, hPk, ⟨h200, h201, h202, h203, h204, h205, h206, h208, h209, h212, h213⟩, hPo, ⟨h301, h302, h303, hAc⟩, ⟨hOq, hOf⟩, hOr, hInj⟩ := h
  have hne : ∀ n b, n < nP B → b < oc B n → 50 * n + b ≠ 50 * i + oc B i := by
    intro n b hn hb e
    have a2 := (mInv_oc50 hinv hn).2
    have e3 : n = i := by omega
    subst e3; omega
  exact ⟨hO, ⟨qA, qO, qT⟩, fun k hk => ⟨(hT k hk).1, (hT k hk).2.1, (hT k hk).2.2.trans (sOut_z2 (by decide) (by decide) _ _).symm⟩, hPk, ⟨h200, h201, h202, h203, h204, h205, h206, h208, fun n hn => (h209 n hn).trans (sLo_out _ (fun b hb => hne n b hn hb)).symm, h212, h213⟩, hPo, ⟨h301, h302, h303, hAc⟩, ⟨hOq, fun n hn b hb => ⟨(hOf n hn b hb).1, (hOf n hn b hb).2.1, (hOf n hn b hb).2.2.1, ((hOf n hn b hb).2.2.2.1.trans (z2_ne2 _ _ _ _ (hne n b hn hb)).symm), (hOf n hn b hb).2.2.2.2⟩⟩, fun n hn9 => ⟨(hOr n hn9).1, (hOr n hn9).2.1, (hOr n hn9).2.2.1, (hOr n hn9).2.2.2.1, (hOr n hn9).2.2.2.2.1, (hOr n hn9).2.2.2.2.2.1, (hOr n hn9).2.2.2.2.2.2.trans (sOn_z2 (by decide) _ _).symm⟩, hInj⟩
theorem ra_20 {w : zW} {x : Nat} {ad : Nat → Nat → Nat} {B : mB} {i : Nat} (h : rAll w x ad B) (hinv : mInv B) (h50 : oc B i < 50) (v : Int32) : rAll w x ad (z2 B 20 (50 * i + oc B i) v) := by
  obtain ⟨hO, ⟨qA, qO, qT⟩, hT, hPk, ⟨h200, h201, h202, h203, h204, h205, h206, h208, h209, h212, h213⟩, hPo, ⟨h301, h302, h303, hAc⟩, ⟨hOq, hOf⟩, hOr, hInj⟩ := h
  have hne : ∀ n b, n < nP B → b < oc B n → 50 * n + b ≠ 50 * i + oc B i := by
    intro n b hn hb e
    have a2 := (mInv_oc50 hinv hn).2
    have e3 : n = i := by omega
    subst e3; omega
  exact ⟨hO, ⟨qA, qO, qT⟩, fun k hk => ⟨(hT k hk).1, (hT k hk).2.1, (hT k hk).2.2.trans (sOut_z2 (by decide) (by decide) _ _).symm⟩, hPk, ⟨h200, h201, h202, h203, h204, h205, h206, h208, fun n hn => (h209 n hn).trans (sLo_out _ (fun b hb => hne n b hn hb)).symm, h212, h213⟩, hPo, ⟨h301, h302, h303, hAc⟩, ⟨hOq, fun n hn b hb => ⟨(hOf n hn b hb).1, (hOf n hn b hb).2.1, (hOf n hn b hb).2.2.1, (hOf n hn b hb).2.2.2.1, ((hOf n hn b hb).2.2.2.2.trans (z2_ne2 _ _ _ _ (hne n b hn hb)).symm)⟩⟩, fun n hn9 => ⟨(hOr n hn9).1, (hOr n hn9).2.1, (hOr n hn9).2.2.1, (hOr n hn9).2.2.2.1, (hOr n hn9).2.2.2.2.1, (hOr n hn9).2.2.2.2.2.1, (hOr n hn9).2.2.2.2.2.2.trans (sOn_z2 (by decide) _ _).symm⟩, hInj⟩
theorem nI_s (n : Nat) : nI n + 1 = nI (n + 1) := nI_1 n
theorem ra_grow {w : zW} {x : Nat} {ad : Nat → Nat → Nat} {B : mB} {i : Nat} (h : rAll w x ad B) (hinv : mInv B) (hi : i < nP B) (h50 : oc B i < 50)
    (he : zK w (ad 4 (50 * i + oc B i)) = 1 ∧ zI w 0 (ad 4 (50 * i + oc B i)) = B 18 (50 * i + oc B i) ∧ zI w 1 (ad 4 (50 * i + oc B i)) = B 17 (50 * i + oc B i) ∧ zI w 2 (ad 4 (50 * i + oc B i)) = B 19 (50 * i + oc B i) ∧ zI w 3 (ad 4 (50 * i + oc B i)) = B 20 (50 * i + oc B i))
    (hd : ∀ n b, n < nP B → b < oc B n → ad 4 (50 * n + b) ≠ ad 4 (50 * i + oc B i)) (hz : B 20 (50 * i + oc B i) = 0) :
    rAll (zsI (zsI (zsQ w (ad 3 i) (oc B i) (some (ad 4 (50 * i + oc B i)))) 208 (ad 0 i) (zI w 208 (ad 0 i) + 1)) 209 (ad 0 i) (zI w 209 (ad 0 i) + B 17 (50 * i + oc B i))) x ad (z2 (z2 B 9 i (B 9 i + 1)) 10 i (B 10 i + 1)) := by
  obtain ⟨hO, ⟨qA, qO, qT⟩, hT, hPk, ⟨h200, h201, h202, h203, h204, h205, h206, h208, h209, h212, h213⟩, hPo, ⟨h301, h302, h303, hAc⟩, ⟨hOq, hOf⟩, hOr, hInj⟩ := h
  have hoc : B 10 i = nI (oc B i) := (mInv_oc50 hinv hi).1
  have oc1 : oc (z2 (z2 B 9 i (B 9 i + 1)) 10 i (B 10 i + 1)) i = oc B i + 1 := by
    show ix (z2 (z2 B 9 i (B 9 i + 1)) 10 i (B 10 i + 1) 10 i) = _
    rw [z2_same, hoc, nI_s, ix_nI (by omega)]
  have oc2 : ∀ n, n ≠ i → oc (z2 (z2 B 9 i (B 9 i + 1)) 10 i (B 10 i + 1)) n = oc B n := fun n hn => congrArg ix (z2_ne2 (z2 B 9 i (B 9 i + 1)) 10 10 _ hn)
  have us : ∀ n b, n < nP B → b < oc (z2 (z2 B 9 i (B 9 i + 1)) 10 i (B 10 i + 1)) n → (n = i ∧ b = oc B i) ∨ (b < oc B n) := by
    intro n b hn hb
    by_cases e : n = i
    · subst e; rw [oc1] at hb; omega
    · rw [oc2 n e] at hb; exact Or.inr hb
  have nA : ad 7 0 ≠ ad 3 i := by intro e; have a := hO.2.2.1; have b := (hPk i hi).2.2.2.1; rw [e] at a; omega
  have nO' : ad 7 1 ≠ ad 3 i := by intro e; have a := hO.2.2.2.2.1; have b := (hPk i hi).2.2.2.1; rw [e] at a; omega
  have nT : ad 7 2 ≠ ad 3 i := by intro e; have a := hO.2.2.2.2.2.2.1; have b := (hPk i hi).2.2.2.1; rw [e] at a; omega
  refine ⟨hO, ⟨fun n hn => (congrFun (z2_ne1 _ _ _ nA) n).trans (qA n hn), fun n hn => (congrFun (z2_ne1 _ _ _ nO') n).trans (qO n hn), fun n hn => (congrFun (z2_ne1 _ _ _ nT) n).trans (qT n hn)⟩, fun k hk => ⟨(hT k hk).1, (hT k hk).2.1, (hT k hk).2.2.trans ((sOut_z2 (by decide) (by decide) _ _).trans (sOut_z2 (by decide) (by decide) _ _)).symm⟩, hPk, ⟨h200, h201, h202, h203, h204, fun n hn => ?_, h206, ?_, fun n hn => ?_, h212, h213⟩, hPo, ⟨h301, h302, h303, hAc⟩, ⟨fun n hn b hb => ?_, fun n hn b hb => ?_⟩, fun n hn9 => ⟨(hOr n hn9).1, (hOr n hn9).2.1, (hOr n hn9).2.2.1, (hOr n hn9).2.2.2.1, (hOr n hn9).2.2.2.2.1, (hOr n hn9).2.2.2.2.2.1, (hOr n hn9).2.2.2.2.2.2.trans ((sOn_z2 (by decide) _ _).trans (sOn_z2 (by decide) _ _)).symm⟩, ⟨hInj.1, fun n b m k hn hb hm hk e => ?_, hInj.2.2⟩⟩
  · show zI w 205 (ad 0 n) = va_up (B 9) i (B 9 i + 1) n - va_up (B 10) i (B 10 i + 1) n
    by_cases e : n = i
    · subst e; simp only [va_up, if_pos]; rw [i32_5]; exact h205 n hn
    · simp only [va_up, if_neg e]; exact h205 n hn
  · rw [h208 i hi]; exact zrep_up h208 (hInj.1 0 (by decide)) hi _
  · show z2 w.2.1 209 (ad 0 i) (zI w 209 (ad 0 i) + B 17 (50 * i + oc B i)) 209 (ad 0 n) = sLo (z2 (z2 B 9 i (B 9 i + 1)) 10 i (B 10 i + 1)) (50 * n) (oc (z2 (z2 B 9 i (B 9 i + 1)) 10 i (B 10 i + 1)) n)
    rw [sLo_z2 (by decide) (by decide), sLo_z2 (by decide) (by decide), z2_at]
    by_cases e : n = i
    · subst e; rw [if_pos rfl, oc1, h209 n hn]
      show sLoss B n + B 17 (50 * n + oc B n) = sLo B (50 * n) (oc B n) + (if B 20 (50 * n + oc B n) = 0 then B 17 (50 * n + oc B n) else 0)
      rw [if_pos hz]; rfl
    · have e2 : ad 0 n ≠ ad 0 i := fun z => e (hInj.1 0 (by decide) _ _ hn hi z)
      rw [if_neg e2, oc2 n e]; exact h209 n hn
  · show z2 w.2.2.2.2.2.1 (ad 3 i) (oc B i) (some (ad 4 (50 * i + oc B i))) (ad 3 n) b = _
    by_cases e : n = i
    · subst e; rw [z2_at, oc1]
      by_cases e3 : b = oc B n
      · subst e3; rw [if_pos rfl, if_pos (by omega)]
      · rw [if_neg e3]
        refine (hOq n hn b ‹_›).trans ?_
        by_cases e4 : b < oc B n
        · rw [if_pos e4, if_pos (by omega)]
        · rw [if_neg e4, if_neg (by omega)]
    · have e2 : ad 3 n ≠ ad 3 i := fun z => e (hInj.1 3 (by decide) _ _ hn hi z)
      rw [z2_ne1 _ _ _ e2, oc2 n e]; exact hOq n hn b ‹_›
  · rcases us n b hn hb with ⟨rfl, rfl⟩ | hb'
    · exact he
    · exact hOf n hn b hb'
  · rcases us n m hn hm with ⟨rfl, rfl⟩ | hm'
    · rcases us b k hb hk with ⟨rfl, rfl⟩ | hk'
      · exact ⟨rfl, rfl⟩
      · exact absurd e.symm (hd b k hb hk')
    · rcases us b k hb hk with ⟨rfl, rfl⟩ | hk'
      · exact absurd e (hd n m hn hm')
      · exact hInj.2.1 n b m k hn hb hm' hk' e
