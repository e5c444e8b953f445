theorem ra_addOrder {w : zW} {x : Nat} {ad : Nat → Nat → Nat} {B : mB} {s9 k9 w9 g9 : Int32} (h : rAll w x ad B) (hinv : mInv B) (h8 : nO B < 8)
    (he : zK w (ad 5 (nO B)) = 2 ∧ zI w 100 (ad 5 (nO B)) = nI (nO B) ∧ zI w 101 (ad 5 (nO B)) = s9 ∧ zP w 102 (ad 5 (nO B)) = some (ad 6 (ix k9)) ∧ zI w 103 (ad 5 (nO B)) = g9 ∧ zI w 104 (ad 5 (nO B)) = w9 ∧ zI w 105 (ad 5 (nO B)) = 0)
    (hd : ∀ j, j < nO B → ad 5 j ≠ ad 5 (nO B)) :
    rAll (zsI (zsQ w (ad 7 1) (nO B) (some (ad 5 (nO B)))) 504 x (zI w 504 x + 1)) x ad (up_addOrder B s9 k9 w9 g9) := by
  obtain ⟨hO, ⟨qA, qO, qT⟩, hT, hPk, ⟨h200, h201, h202, h203, h204, h205, h206, h208, h209, h212, h213⟩, hPo, ⟨h301, h302, h303, hAc⟩, ⟨hOq, hOf⟩, hOr, hInj⟩ := h
  have hnO : B 22 0 = nI (nO B) := hinv.2.1.2
  have n1 : nO (up_addOrder B s9 k9 w9 g9) = nO B + 1 := by
    show ix (z2 (z2 (z2 (z2 (z2 B 23 (nO B) s9) 24 (nO B) k9) 25 (nO B) w9) 26 (nO B) g9) 22 0 (B 22 0 + 1) 22 0) = _
    rw [z2_same, hnO, nI_1, ix_nI (by omega)]
  have hon : ∀ i, i < nP B → B 11 i = -1 ∨ (B 11 i = nI (ox B i) ∧ ox B i < nO B) := fun i hi => (hinv.2.2.1 i hi).2.2.2.2
  have eOut : ∀ d, sOut (up_addOrder B s9 k9 w9 g9) d (nP B) = sOut B d (nP B) := by
    intro d
    show sOut (z2 (z2 (z2 (z2 (z2 B 23 (nO B) s9) 24 (nO B) k9) 25 (nO B) w9) 26 (nO B) g9) 22 0 (B 22 0 + 1)) d (nP B) = _
    rw [sOut_z2 (by decide) (by decide), sOut_z2 (by decide) (by decide), sOut_z2 (by decide) (by decide), sOut_24, sOut_z2 (by decide) (by decide)]
    intro i hi
    rcases hon i hi with c | c
    · exact Or.inl c
    · exact Or.inr (Nat.ne_of_lt c.2)
  have eOn : ∀ o n, sOn (up_addOrder B s9 k9 w9 g9) o n = sOn B o n := by
    intro o n
    show sOn (z2 (z2 (z2 (z2 (z2 B 23 (nO B) s9) 24 (nO B) k9) 25 (nO B) w9) 26 (nO B) g9) 22 0 (B 22 0 + 1)) o n = _
    rw [sOn_z2 (by decide), sOn_z2 (by decide), sOn_z2 (by decide), sOn_z2 (by decide), sOn_z2 (by decide)]
  have eLo : ∀ i, sLoss (up_addOrder B s9 k9 w9 g9) i = sLoss B i := by
    intro i
    show sLoss (z2 (z2 (z2 (z2 (z2 B 23 (nO B) s9) 24 (nO B) k9) 25 (nO B) w9) 26 (nO B) g9) 22 0 (B 22 0 + 1)) i = _
    rw [sLoss_z2 (by decide) (by decide) (by decide), sLoss_z2 (by decide) (by decide) (by decide), sLoss_z2 (by decide) (by decide) (by decide), sLoss_z2 (by decide) (by decide) (by decide), sLoss_z2 (by decide) (by decide) (by decide)]
  have nA : ad 7 0 ≠ ad 7 1 := by intro e; have a := hO.2.2.1; have b := hO.2.2.2.2.1; rw [e] at a; omega
  have nT : ad 7 2 ≠ ad 7 1 := by intro e; have a := hO.2.2.2.2.2.2.1; have b := hO.2.2.2.2.1; rw [e] at a; omega
  have n3 : ∀ i, i < nP B → ad 3 i ≠ ad 7 1 := by intro i hi e; have a := (hPk i hi).2.2.2.1; have b := hO.2.2.2.2.1; rw [e] at a; omega
  have z23 : ∀ j, up_addOrder B s9 k9 w9 g9 23 j = va_up (B 23) (nO B) s9 j := fun j => rfl
  have z24 : ∀ j, up_addOrder B s9 k9 w9 g9 24 j = va_up (B 24) (nO B) k9 j := fun j => rfl
  have z25 : ∀ j, up_addOrder B s9 k9 w9 g9 25 j = va_up (B 25) (nO B) w9 j := fun j => rfl
  have z26 : ∀ j, up_addOrder B s9 k9 w9 g9 26 j = va_up (B 26) (nO B) g9 j := fun j => rfl
  refine ⟨⟨⟨hO.1.1, hO.1.2.1, ?_, hO.1.2.2.2⟩, hO.2⟩, ⟨fun n hn => (congrFun (z2_ne1 _ _ _ nA) n).trans (qA n hn), fun n hn => ?_, fun n hn => (congrFun (z2_ne1 _ _ _ nT) n).trans (qT n hn)⟩, fun k hk => ⟨(hT k hk).1, (hT k hk).2.1, (hT k hk).2.2.trans (eOut _).symm⟩, hPk, ⟨h200, h201, h202, h203, h204, h205, h206, h208, fun n hn => (h209 n hn).trans (eLo n).symm, h212, h213⟩, hPo, ⟨h301, h302, h303, hAc⟩, ⟨fun n hn b hb => (congrFun (z2_ne1 _ _ _ (n3 n hn)) b).trans (hOq n hn b hb), hOf⟩, fun j hj => ?_, ⟨hInj.1, hInj.2.1, fun i j hi hj e => ?_, hInj.2.2.2⟩⟩
  · show z2 w.2.1 504 x (zI w 504 x + 1) 504 x = z2 (z2 (z2 (z2 (z2 B 23 (nO B) s9) 24 (nO B) k9) 25 (nO B) w9) 26 (nO B) g9) 22 0 (B 22 0 + 1) 22 0
    rw [z2_same, z2_same, hO.1.2.2.1]
  · show z2 w.2.2.2.2.2.1 (ad 7 1) (nO B) (some (ad 5 (nO B))) (ad 7 1) n = _
    rw [z2_at, n1]
    by_cases e : n = nO B
    · subst e; rw [if_pos rfl, if_pos (by omega)]
    · rw [if_neg e]
      refine (qO n hn).trans ?_
      by_cases c : n < nO B
      · rw [if_pos c, if_pos (by omega)]
      · rw [if_neg c, if_neg (by omega)]
  · rw [n1] at hj
    rcases Nat.lt_or_ge j (nO B) with c | c
    · obtain ⟨a1, a2, a3, a4, a5, a6, a7⟩ := hOr j c
      have e : ¬ j = nO B := by omega
      have ek : kx (up_addOrder B s9 k9 w9 g9) j = kx B j := by unfold kx; rw [z24]; simp only [va_up, if_neg e]
      refine ⟨a1, a2, ?_, ?_, ?_, ?_, a7.trans (eOn _ _).symm⟩
      · rw [z23]; simp only [va_up, if_neg e]; exact a3
      · rw [ek]; exact a4
      · rw [z26]; simp only [va_up, if_neg e]; exact a5
      · rw [z25]; simp only [va_up, if_neg e]; exact a6
    · have e : j = nO B := by omega
      subst e
      obtain ⟨a1, a2, a3, a4, a5, a6, a7⟩ := he
      have ek : kx (up_addOrder B s9 k9 w9 g9) (nO B) = ix k9 := by unfold kx; rw [z24]; simp only [va_up, if_pos]
      refine ⟨a1, a2, ?_, ?_, ?_, ?_, a7.trans ?_⟩
      · rw [z23]; simp only [va_up, if_pos]; exact a3
      · rw [ek]; exact a4
      · rw [z26]; simp only [va_up, if_pos]; exact a5
      · rw [z25]; simp only [va_up, if_pos]; exact a6
      · rw [eOn]
        refine (sOn_zero _ (fun i hi e9 => ?_)).symm
        rcases hon i hi with c | c
        · rw [c] at e9; exact nI_neg (by omega) e9
        · rw [c.1] at e9; have := nI_inj (by omega) (by omega) e9; omega
  · rw [n1] at hi hj
    rcases Nat.lt_or_ge i (nO B) with c | c
    · rcases Nat.lt_or_ge j (nO B) with c2 | c2
      · exact hInj.2.2.1 i j c c2 e
      · have e2 : j = nO B := by omega
        subst e2; exact absurd e (hd i c)
    · have e1 : i = nO B := by omega
      subst e1
      rcases Nat.lt_or_ge j (nO B) with c2 | c2
      · exact absurd e.symm (hd j c2)
      · omega
/-- beyond the people, the state is 0 -/
def mInv3 (B : mB) : Prop := ∀ i, nP B ≤ i → B 2 i = 0 ∧ B 7 i = 0 ∧ B 8 i = 0 ∧ B 9 i = 0 ∧ B 10 i = 0 ∧ B 12 i = 0 ∧ B 13 i = 0 ∧ B 15 i = 0 ∧ B 16 i = 0 ∧ (∀ j, j < 4 → B 14 (4 * i + j) = 0)
theorem i32_0 : (0 : Int32) - 0 = 0 := rfl
theorem up1 {α : Type} {F : Nat → α} {n : Nat} {v : α} : va_up F n v n = v := by simp [va_up]
theorem up0 {α : Type} {F : Nat → α} {n i : Nat} {v : α} (h : i ≠ n) : va_up F n v i = F i := by simp [va_up, h]
theorem lt1 {n i : Nat} (h : i < n + 1) : i < n ∨ i = n := by omega
theorem ra_admit {w : zW} {x : Nat} {ad : Nat → Nat → Nat} {B : mB} {d k9 : Int32} (h : rAll w x ad B) (hinv : mInv B) (hinv3 : mInv3 B) (h10 : nP B < 10)
    (he : zK w (ad 0 (nP B)) = 3 ∧ zP w 207 (ad 0 (nP B)) = some (ad 3 (nP B)) ∧ zP w 211 (ad 0 (nP B)) = some (ad 1 (nP B)) ∧ zK w (ad 3 (nP B)) = 10 ∧ zN w (ad 3 (nP B)) = 50 ∧ zK w (ad 1 (nP B)) = 4 ∧ zP w 300 (ad 1 (nP B)) = some (ad 2 (nP B)) ∧ zK w (ad 2 (nP B)) = 15 ∧ zN w (ad 2 (nP B)) = 4)
    (hi0 : zI w 200 (ad 0 (nP B)) = B 0 0 ∧ zI w 201 (ad 0 (nP B)) = d ∧ zI w 202 (ad 0 (nP B)) = k9 ∧ zI w 203 (ad 0 (nP B)) = 1 ∧ zI w 204 (ad 0 (nP B)) = 0 ∧ zI w 205 (ad 0 (nP B)) = 0 ∧ zI w 206 (ad 0 (nP B)) = 0 ∧ zI w 208 (ad 0 (nP B)) = 0 ∧ zI w 209 (ad 0 (nP B)) = 0 ∧ zI w 212 (ad 0 (nP B)) = 0 ∧ zI w 213 (ad 0 (nP B)) = 0 ∧ zP w 210 (ad 0 (nP B)) = none)
    (hi1 : zI w 301 (ad 1 (nP B)) = 0 ∧ zI w 302 (ad 1 (nP B)) = 0 ∧ zI w 303 (ad 1 (nP B)) = 0 ∧ (∀ j, zR w (ad 2 (nP B)) j = 0) ∧ (∀ j, zQ w (ad 3 (nP B)) j = none))
    (hd : ∀ t, t < 4 → ∀ i, i < nP B → ad t i ≠ ad t (nP B)) :
    rAll (zsI (zsQ w (ad 7 0) (nP B) (some (ad 0 (nP B)))) 503 x (zI w 503 x + 1)) x ad (up_admit B d k9) := by
  obtain ⟨hO, ⟨qA, qO, qT⟩, hT, hPk, ⟨h200, h201, h202, h203, h204, h205, h206, h208, h209, h212, h213⟩, hPo, ⟨h301, h302, h303, hAc⟩, ⟨hOq, hOf⟩, hOr, hInj⟩ := h
  have hnP : B 1 0 = nI (nP B) := hinv.1.2
  obtain ⟨m2, m7, m8, m9, m10, m12, m13, m15, m16, m14⟩ := hinv3 (nP B) (Nat.le_refl _)
  have n1 : nP (up_admit B d k9) = nP B + 1 := by
    show ix (z2 (z2 (z2 (z2 (z2 (z2 B 3 (nP B) (B 0 0)) 4 (nP B) d) 5 (nP B) k9) 6 (nP B) 1) 11 (nP B) (-1)) 1 0 (B 1 0 + 1) 1 0) = _
    rw [z2_same, hnP, nI_1, ix_nI (by omega)]
  have eOut : ∀ d9, sOut (up_admit B d k9) d9 (nP B + 1) = sOut B d9 (nP B) := by
    intro d9
    show sOut (z2 (z2 (z2 (z2 (z2 (z2 B 3 (nP B) (B 0 0)) 4 (nP B) d) 5 (nP B) k9) 6 (nP B) 1) 11 (nP B) (-1)) 1 0 (B 1 0 + 1)) d9 (nP B) + tmO (up_admit B d k9) d9 (va_up (B 11) (nP B) (-1) (nP B)) = _
    rw [sOut_z2 (by decide) (by decide), sOut_set, if_neg (by omega), sOut_z2 (by decide) (by decide), sOut_z2 (by decide) (by decide), sOut_z2 (by decide) (by decide), sOut_z2 (by decide) (by decide), up1]
    unfold tmO; rw [if_pos rfl, Int32.add_zero]
  have eOn : ∀ o, o < nO B → sOn (up_admit B d k9) (nI o) (nP B + 1) = sOn B (nI o) (nP B) := by
    intro o ho
    have h8 := hinv.2.1.1
    show sOn (z2 (z2 (z2 (z2 (z2 (z2 B 3 (nP B) (B 0 0)) 4 (nP B) d) 5 (nP B) k9) 6 (nP B) 1) 11 (nP B) (-1)) 1 0 (B 1 0 + 1)) (nI o) (nP B) + tmN (nI o) (va_up (B 11) (nP B) (-1) (nP B)) = _
    rw [sOn_z2 (by decide), sOn_set, if_neg (by omega), sOn_z2 (by decide), sOn_z2 (by decide), sOn_z2 (by decide), sOn_z2 (by decide), up1]
    unfold tmN; rw [if_neg (nI_neg (by omega)), Int32.add_zero]
  have eLo : ∀ i, sLoss (up_admit B d k9) i = sLoss B i := by
    intro i
    show sLoss (z2 (z2 (z2 (z2 (z2 (z2 B 3 (nP B) (B 0 0)) 4 (nP B) d) 5 (nP B) k9) 6 (nP B) 1) 11 (nP B) (-1)) 1 0 (B 1 0 + 1)) i = _
    rw [sLoss_z2 (by decide) (by decide) (by decide), sLoss_z2 (by decide) (by decide) (by decide), sLoss_z2 (by decide) (by decide) (by decide), sLoss_z2 (by decide) (by decide) (by decide), sLoss_z2 (by decide) (by decide) (by decide), sLoss_z2 (by decide) (by decide) (by decide)]
  have oc0 : oc B (nP B) = 0 := by unfold oc; rw [m10]; rfl
  have eL0 : sLoss B (nP B) = 0 := by unfold sLoss; rw [oc0]; rfl
  have nO' : ad 7 1 ≠ ad 7 0 := by intro e; have a := hO.2.2.2.2.1; have b := hO.2.2.1; rw [e] at a; omega
  have nT : ad 7 2 ≠ ad 7 0 := by intro e; have a := hO.2.2.2.2.2.2.1; have b := hO.2.2.1; rw [e] at a; omega
  have n3 : ∀ i, i < nP B → ad 3 i ≠ ad 7 0 := by intro i hi e; have a := (hPk i hi).2.2.2.1; have b := hO.2.2.1; rw [e] at a; omega
  have n4 : ad 3 (nP B) ≠ ad 7 0 := by intro e; have a := he.2.2.2.1; have b := hO.2.2.1; rw [e] at a; omega
  have up : ∀ {f : Nat} {F : Nat → Int32} {G : Nat → Int32} {v : Int32}, (∀ i, i < nP B → F (ad f i) = G i) → F (ad f (nP B)) = v → ∀ i, i < nP B + 1 → F (ad f i) = va_up G (nP B) v i := by
    intro f F G v h1 h2 i hi
    rcases lt1 hi with c | c
    · rw [up0 (by omega)]; exact h1 i c
    · subst c; rw [up1]; exact h2
  have sm : ∀ {f : Nat} {F : Nat → Int32} {G : Nat → Int32}, (∀ i, i < nP B → F (ad f i) = G i) → F (ad f (nP B)) = G (nP B) → ∀ i, i < nP B + 1 → F (ad f i) = G i := by
    intro f F G h1 h2 i hi
    rcases lt1 hi with c | c
    · exact h1 i c
    · subst c; exact h2
  obtain ⟨j200, j201, j202, j203, j204, j205, j206, j208, j209, j212, j213, j210⟩ := hi0
  obtain ⟨j301, j302, j303, jR, jQ⟩ := hi1
  unfold rAll rObj rRow rTool rPk rPi rPo rPu rOf rInj
  rw [n1]
  refine ⟨⟨⟨hO.1.1, ?_, hO.1.2.2.1, hO.1.2.2.2⟩, hO.2⟩, ⟨fun n hn => ?_, fun n hn => (congrFun (z2_ne1 _ _ _ nO') n).trans (qO n hn), fun n hn => (congrFun (z2_ne1 _ _ _ nT) n).trans (qT n hn)⟩, fun k hk => ⟨(hT k hk).1, (hT k hk).2.1, (hT k hk).2.2.trans (eOut _).symm⟩, fun i hi => ?_, ⟨up h200 j200, up h201 j201, up h202 j202, up h203 j203, sm h204 (j204.trans m7.symm), fun i hi => ?_, sm h206 (j206.trans m8.symm), sm h208 (j208.trans m10.symm), fun i hi => ?_, sm h212 (j212.trans m2.symm), sm h213 (j213.trans m12.symm)⟩, fun i hi => ?_, ⟨sm h301 (j301.trans m15.symm), sm h302 (j302.trans m16.symm), sm h303 (j303.trans m13.symm), fun i hi j hj => ?_⟩, ⟨fun i hi b hb => ?_, fun i hi b hb => ?_⟩, fun j hj => ?_, ⟨fun t ht i j hi hj e => ?_, fun i j k n hi hj hk hn e => ?_, hInj.2.2⟩⟩
  · show z2 w.2.1 503 x (zI w 503 x + 1) 503 x = z2 (z2 (z2 (z2 (z2 (z2 B 3 (nP B) (B 0 0)) 4 (nP B) d) 5 (nP B) k9) 6 (nP B) 1) 11 (nP B) (-1)) 1 0 (B 1 0 + 1) 1 0
    rw [z2_same, z2_same, hO.1.2.1]
  · show z2 w.2.2.2.2.2.1 (ad 7 0) (nP B) (some (ad 0 (nP B))) (ad 7 0) n = _
    rw [z2_at]
    by_cases e : n = nP B
    · subst e; rw [if_pos rfl, if_pos (by omega)]
    · rw [if_neg e]
      refine (qA n hn).trans ?_
      by_cases c : n < nP B
      · rw [if_pos c, if_pos (by omega)]
      · rw [if_neg c, if_neg (by omega)]
  · rcases lt1 hi with c | c
    · exact hPk i c
    · subst c; exact he
  · show zI w 205 (ad 0 i) = B 9 i - B 10 i
    rcases lt1 hi with c | c
    · exact h205 i c
    · subst c; rw [j205, m9, m10]; rfl
  · rw [eLo]
    rcases lt1 hi with c | c
    · exact h209 i c
    · subst c; rw [eL0]; exact j209
  · show zP w 210 (ad 0 i) = if va_up (B 11) (nP B) (-1) i = -1 then none else some (ad 5 (ix (va_up (B 11) (nP B) (-1) i)))
    rcases lt1 hi with c | c
    · rw [up0 (by omega)]; exact hPo i c
    · subst c; rw [up1, if_pos rfl]; exact j210
  · rcases lt1 hi with c | c
    · exact hAc i c j hj
    · subst c; exact (jR j).trans (m14 j hj).symm
  · rcases lt1 hi with c | c
    · exact (congrFun (z2_ne1 _ _ _ (n3 i c)) b).trans (hOq i c b hb)
    · subst c
      refine (congrFun (z2_ne1 _ _ _ n4) b).trans ((jQ b).trans ?_)
      show none = if b < oc B (nP B) then _ else none
      rw [oc0, if_neg (by omega)]
  · rcases lt1 hi with c | c
    · exact hOf i c b hb
    · subst c
      have hb2 : b < oc B (nP B) := hb
      rw [oc0] at hb2; omega
  · obtain ⟨a1, a2, a3, a4, a5, a6, a7⟩ := hOr j hj
    exact ⟨a1, a2, a3, a4, a5, a6, a7.trans ((eOn j hj).symm.trans (by rw [n1]))⟩
  · rcases lt1 hi with c | c
    · rcases lt1 hj with c2 | c2
      · exact hInj.1 t ht i j c c2 e
      · subst c2; exact absurd e (hd t ht i c)
    · subst c
      rcases lt1 hj with c2 | c2
      · exact absurd e.symm (hd t ht j c2)
      · exact c2.symm
  · have ok : ∀ i k, i < nP B + 1 → k < oc (up_admit B d k9) i → i < nP B ∧ k < oc B i := by
      intro i k hi hk
      have hk2 : k < oc B i := hk
      rcases lt1 hi with c | c
      · exact ⟨c, hk2⟩
      · subst c; rw [oc0] at hk2; omega
    exact hInj.2.1 i j k n (ok i k hi hk).1 (ok j n hj hn).1 (ok i k hi hk).2 (ok j n hj hn).2 e
