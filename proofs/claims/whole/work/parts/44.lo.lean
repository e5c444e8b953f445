theorem and31 (a : Int32) : ∃ j, j < 32 ∧ a &&& 31 = nI j := by
  have h : (a &&& 31).toBitVec.toNat < 32 := by
    rw [Int32.toBitVec_and, BitVec.toNat_and]
    exact Nat.lt_of_le_of_lt Nat.and_le_right (by decide)
  refine ⟨(a &&& 31).toBitVec.toNat, h, ?_⟩
  apply Int32.toBitVec_inj.mp
  apply BitVec.eq_of_toNat_eq
  show _ = (Int32.ofNat (a &&& 31).toBitVec.toNat).toBitVec.toNat
  rw [Int32.toBitVec_ofNat', BitVec.toNat_ofNat, Nat.mod_eq_of_lt (by omega)]
theorem law_cond {L k : Nat} (hL : L ≤ 2560) (hk : k ≤ 3000) : (Int32.ofNat L - 5 < nI k) ↔ ¬ (k + 5 ≤ L) := by
  have e : (Int32.ofNat L - 5 : Int32) = nI L - nI 5 := rfl
  rw [e, Int32.lt_iff_toInt_lt, pk_sub_toInt (by omega) (by decide), nI_toInt (by omega)]
  omega
theorem law_next (t : Nat) : nI (5 * t) + 5 = nI (5 * (t + 1)) := by
  show nI (5 * t) + nI 5 = _
  rw [nI_add]; rfl
theorem law_loop {p : Program} {e : Env} {s : State} {m : MethodId} {below : List Frame} {meth : Method} {c : Code} (l : Launch) (hl9 : l.stackTraces = false) {D : va_G} {cy : Nat → ClassId} {b L : Nat} {xs : Nat → Int32} (hL : L ≤ 2560) (C0 : lw_At p s m meth c b L xs) (hA : zA D cy s.heap.size s) {x y o9 : Nat} {r : Nat → Nat} :
    ∀ (n t : Nat), n + t = 513 → ∀ (w : zW) (B : mB) (H : Heap) (locs : List Loc) (ls : Array Slot), LI w x y o9 r B → zH D cy s.heap.size w H → va_S (fun q : Nat => s.heap.size ≤ q) s.heap H locs → lv_has ls 7 [(0, .ref b), (1, .ref x), (2, .ref y), (3, .ref o9), (4, .int (nI (5 * t)))] →
      W p l e room_1 s m #[Value.ref b] below meth c H locs (100 + 8 * t) (5000 + 100 * t) (lw_Z below #[Value.ref b] s) (F0 m 23 ls []) := by
  obtain ⟨hx, hb, hr, hml, hown, hts0, hX, hbl, hlocks, hgv⟩ := id C0
  have hb : c.code = cL_law := hb
  have hbA : ¬ (fun q : Nat => s.heap.size ≤ q) b := Nat.not_le.mpr hbl
  intro n
  induction n with
  | zero =>
    intro t ht w B H locs ls hI hH hS hl
    refine lv_iload hx hb dL_law_23 (lv_at hl 4 rfl) ?_
    refine lv_aload_n hx hb dL_law_25 rfl (lv_at hl 0 rfl) ?_
    refine va_slen hx hb hX hbl hbA hS dL_law_26 ?_
    refine lv_iconst (v := 5) hx hb dL_law_27 (by decide) ?_
    refine lv_isub hx hb dL_law_28 ?_
    refine lv_icmp_gt (tgt := 1437) hx hb dL_law_29 (by decide) (fun c1 => ?_) (fun c1 => absurd ((law_cond hL (by omega)).mpr (by omega)) c1)
    refine lv_iconst (v := 1) hx hb dL_law_1437 (by decide) ?_
    refine va_forget (fun q hq => hS.2.2 q hq) ?_
    refine W.widen (k := 601024) (n := 7293034) (by omega) (by omega) ?_
    exact lw_ret hx hb hr hlocks dL_law_1438
  | succ n ih =>
    intro t ht w B H locs ls hI hH hS hl
    refine lv_iload hx hb dL_law_23 (lv_at hl 4 rfl) ?_
    refine lv_aload_n hx hb dL_law_25 rfl (lv_at hl 0 rfl) ?_
    refine va_slen hx hb hX hbl hbA hS dL_law_26 ?_
    refine lv_iconst (v := 5) hx hb dL_law_27 (by decide) ?_
    refine lv_isub hx hb dL_law_28 ?_
    refine lv_icmp_gt (tgt := 1437) hx hb dL_law_29 (by decide) (fun c1 => ?_) (fun c1 => ?_)
    · refine lv_iconst (v := 1) hx hb dL_law_1437 (by decide) ?_
      refine va_forget (fun q hq => hS.2.2 q hq) ?_
      refine W.widen (k := 601024) (n := 7293034) (by omega) (by omega) ?_
      exact lw_ret hx hb hr hlocks dL_law_1438
    · have hk : 5 * t + 5 ≤ L := Classical.not_not.mp (fun z => c1 ((law_cond hL (by omega)).mpr z))
      have kk : ∀ (w1 : zW) (B1 : mB) (H1 : Heap) (locs1 : List Loc) (ls1 : Array Slot), LI w1 x y o9 r B1 → zH D cy s.heap.size w1 H1 → va_S (fun q : Nat => s.heap.size ≤ q) s.heap H1 locs1 → lv_has ls1 7 [(0, .ref b), (1, .ref x), (2, .ref y), (3, .ref o9), (4, .int (nI (5 * t)))] →
          W p l e room_1 s m #[Value.ref b] below meth c H1 locs1 (100 + 8 * t + 8) (5000 + 100 * t + 100) (lw_Z below #[Value.ref b] s) (F0 m 1431 ls1 []) := by
        intro w1 B1 H1 locs1 ls1 hI1 hH1 hS1 hl1
        refine lv_iinc (v := nI (5 * t) + 5) (lv' := [(4, .int (nI (5 * t) + 5)), (0, .ref b), (1, .ref x), (2, .ref y), (3, .ref o9)]) hx hb dL_law_1431 hl1 (k := 4) rfl rfl (by decide) rfl (fun ls2 hl2 => ?_)
        refine lv_goto (tgt := 23) hx hb dL_law_1434 (by decide) ?_
        refine W.widen (k := 100 + 8 * (t + 1)) (n := 5000 + 100 * (t + 1)) (by omega) (by omega) ?_
        rw [law_next] at hl2
        exact ih (t + 1) (by omega) w1 B1 H1 locs1 ls2 hI1 hH1 hS1 (lv_sub hl2 [1, 2, 3, 4, 0] rfl)
      have hc : 100 + 8 * t + 8 ≤ 601024 := by omega
      have hs : 5000 + 100 * t + 100 ≤ 7293034 := by omega
      refine lv_aload_n hx hb dL_law_32 rfl (lv_at hl 0 rfl) ?_
      refine lv_iload hx hb dL_law_33 (lv_at hl 4 rfl) ?_
      refine va_sld hx hb hX hbl hbA hS (vp_in_nI (by omega) (by omega)) dL_law_35 ?_
      refine lv_bipush (v := 31) hx hb dL_law_36 (by decide) ?_
      refine lv_iand hx hb dL_law_38 ?_
      obtain ⟨j, hj, hv⟩ := and31 (xs (nI (5 * t)).toNatClampNeg)
      rw [hv]
      rcases (show j = 0 ∨ j = 1 ∨ j = 2 ∨ j = 3 ∨ j = 4 ∨ j = 5 ∨ j = 6 ∨ j = 7 ∨ j = 8 ∨ j = 9 ∨ j = 10 ∨ j = 11 ∨ j = 12 ∨ j = 13 ∨ j = 14 ∨ j = 15 ∨ j = 16 ∨ j = 17 ∨ j = 18 ∨ j = 19 ∨ 20 ≤ j by omega) with rfl | rfl | rfl | rfl | rfl | rfl | rfl | rfl | rfl | rfl | rfl | rfl | rfl | rfl | rfl | rfl | rfl | rfl | rfl | rfl | h20
      · refine lv_tableIn (off := 93) (tgt := 132) hx hb dL_law_39 (by decide) (by decide) (by decide) (by decide) ?_
        exact law_admit l hl9 hL C0 hA hI hH hS hk hl hc hs kk
      · refine lv_tableIn (off := 161) (tgt := 200) hx hb dL_law_39 (by decide) (by decide) (by decide) (by decide) ?_
        exact law_course l hl9 hL C0 hA hI hH hS hk hl hc hs kk
      · refine lv_tableIn (off := 241) (tgt := 280) hx hb dL_law_39 (by decide) (by decide) (by decide) (by decide) ?_
        exact law_offence l hl9 hL C0 hA hI hH hS hk hl hc hs kk
      · refine lv_tableIn (off := 309) (tgt := 348) hx hb dL_law_39 (by decide) (by decide) (by decide) (by decide) ?_
        exact law_appeal l hl9 hL C0 hA hI hH hS hk hl hc hs kk
      · refine lv_tableIn (off := 377) (tgt := 416) hx hb dL_law_39 (by decide) (by decide) (by decide) (by decide) ?_
        exact law_release l hl9 hL C0 hA hI hH hS hk hl hc hs kk
      · refine lv_tableIn (off := 433) (tgt := 472) hx hb dL_law_39 (by decide) (by decide) (by decide) (by decide) ?_
        exact law_isIn l hl9 hL C0 hA hI hH hS hk hl hc hs kk
      · refine lv_tableIn (off := 496) (tgt := 535) hx hb dL_law_39 (by decide) (by decide) (by decide) (by decide) ?_
        exact law_regime l hl9 hL C0 hA hI hH hS hk hl hc hs kk
      · refine lv_tableIn (off := 552) (tgt := 591) hx hb dL_law_39 (by decide) (by decide) (by decide) (by decide) ?_
        exact law_papers l hl9 hL C0 hA hI hH hS hk hl hc hs kk
      · refine lv_tableIn (off := 636) (tgt := 675) hx hb dL_law_39 (by decide) (by decide) (by decide) (by decide) ?_
        exact law_setTools l hl9 hL C0 hA hI hH hS hk hl hc hs kk
      · refine lv_tableIn (off := 704) (tgt := 743) hx hb dL_law_39 (by decide) (by decide) (by decide) (by decide) ?_
        exact law_toolsOut l hl9 hL C0 hA hI hH hS hk hl hc hs kk
      · refine lv_tableIn (off := 760) (tgt := 799) hx hb dL_law_39 (by decide) (by decide) (by decide) (by decide) ?_
        exact law_addOrder l hl9 hL C0 hA hI hH hS hk hl hc hs kk
      · refine lv_tableIn (off := 852) (tgt := 891) hx hb dL_law_39 (by decide) (by decide) (by decide) (by decide) ?_
        exact law_assign l hl9 hL C0 hA hI hH hS hk hl hc hs kk
      · refine lv_tableIn (off := 920) (tgt := 959) hx hb dL_law_39 (by decide) (by decide) (by decide) (by decide) ?_
        exact law_takeOff l hl9 hL C0 hA hI hH hS hk hl hc hs kk
      · refine lv_tableIn (off := 976) (tgt := 1015) hx hb dL_law_39 (by decide) (by decide) (by decide) (by decide) ?_
        exact law_orderOf l hl9 hL C0 hA hI hH hS hk hl hc hs kk
      · refine lv_tableIn (off := 1032) (tgt := 1071) hx hb dL_law_39 (by decide) (by decide) (by decide) (by decide) ?_
        exact law_left l hl9 hL C0 hA hI hH hS hk hl hc hs kk
      · refine lv_tableIn (off := 1088) (tgt := 1127) hx hb dL_law_39 (by decide) (by decide) (by decide) (by decide) ?_
        exact law_account l hl9 hL C0 hA hI hH hS hk hl hc hs kk
      · refine lv_tableIn (off := 1156) (tgt := 1195) hx hb dL_law_39 (by decide) (by decide) (by decide) (by decide) ?_
        exact law_buy l hl9 hL C0 hA hI hH hS hk hl hc hs kk
      · refine lv_tableIn (off := 1224) (tgt := 1263) hx hb dL_law_39 (by decide) (by decide) (by decide) (by decide) ?_
        exact law_limit l hl9 hL C0 hA hI hH hS hk hl hc hs kk
      · refine lv_tableIn (off := 1280) (tgt := 1319) hx hb dL_law_39 (by decide) (by decide) (by decide) (by decide) ?_
        exact law_paidOut l hl9 hL C0 hA hI hH hS hk hl hc hs kk
      · refine lv_tableIn (off := 1336) (tgt := 1375) hx hb dL_law_39 (by decide) (by decide) (by decide) (by decide) ?_
        exact law_pass l hl9 hL C0 hA hI hH hS hk hl hc hs kk
      · refine lv_tableOut (tgt := 1431) hx hb dL_law_39 (Or.inr (by rw [nI_toInt (by omega)]; omega)) (by decide) ?_
        refine W.widen (k := 100 + 8 * t + 8) (n := 5000 + 100 * t + 100) (by omega) (by omega) ?_
        exact kk w B H locs ls hI hH hS hl
