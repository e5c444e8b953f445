theorem vx_imp {S : Type} {l : Launch} {yy : MethodName} {ws : List Cond} {rm : Room} {Pc : Array Value → State → Prop} {base : Nat} {HB : S → Heap → Prop} {post post' : Int32 → S → Prop} {XC : String → State → State → Prop} {mc ms : Nat} {free : Addr → Prop} (h : vx_Met l yy ws rm Pc (zQi base HB post) XC mc ms free) (hp : ∀ r u, post r u → post' r u) : vx_Met l yy ws rm Pc (zQi base HB post') XC mc ms free := by
  intro p e ha hc hk s m args below hf happ hP hK
  obtain ⟨k, o, g1, g2, g3, g4⟩ := h p e ha hc hk s m args below hf happ hP hK
  refine ⟨k, o, g1, g2, g3, ?_⟩
  rcases g4 with ⟨⟨⟨v, u, e1, e2, hb⟩, hF9⟩, hL⟩ | h9
  · exact Or.inl ⟨⟨⟨v, u, e1, hp v u e2, hb⟩, hF9⟩, hL⟩
  · exact Or.inr h9
theorem zx_admit_1 (l : Launch) (hl9 : l.stackTraces = false) (D : va_G) (cy : Nat → ClassId) (base x : Nat) (r : Nat → Nat) (n : Nat) (B A : mB) (a1 a2 a3 a4 : Int32) (hcd : (cd_admit B a1 a2) = 1) : vx_Met l yL_does wsL_does ({ frames := 8, cells := 8, slots := 100, locals := 135 }) (zPc D cy base (lH D cy base x r n) [.ref x, .int 0, .int a1, .int a2, .int a3, .int a4] (B, A)) (zQi base (lH D cy base x r n) (fun (r0 : Int32) (u0 : lU) => r0 = (-20) ∧ u0 = (B, A))) (zXC base (lH D cy base x r n) (fun (_ : String) (_ : lU) => False)) 8 100 (fun q => base ≤ q) := by
  refine vx_imp (zd_admit l hl9 D cy base x r n B A a1 a2 a3 a4) (fun r9 u9 h => ?_)
  rcases h with ⟨hc, hr, hu⟩ | ⟨hc, hr, hu⟩ | ⟨hc, hr, hu⟩
  · exact absurd (hc.symm.trans hcd) (by decide)
  · exact ⟨hr, hu⟩
  · exact absurd (hc.symm.trans hcd) (by decide)
theorem zx_admit_2 (l : Launch) (hl9 : l.stackTraces = false) (D : va_G) (cy : Nat → ClassId) (base x : Nat) (r : Nat → Nat) (n : Nat) (B A : mB) (a1 a2 a3 a4 : Int32) (hcd : (cd_admit B a1 a2) = 2) : vx_Met l yL_does wsL_does ({ frames := 8, cells := 8, slots := 100, locals := 135 }) (zPc D cy base (lH D cy base x r n) [.ref x, .int 0, .int a1, .int a2, .int a3, .int a4] (B, A)) (zQi base (lH D cy base x r n) (fun (r0 : Int32) (u0 : lU) => r0 = (-10) ∧ u0 = (B, A))) (zXC base (lH D cy base x r n) (fun (_ : String) (_ : lU) => False)) 8 100 (fun q => base ≤ q) := by
  refine vx_imp (zd_admit l hl9 D cy base x r n B A a1 a2 a3 a4) (fun r9 u9 h => ?_)
  rcases h with ⟨hc, hr, hu⟩ | ⟨hc, hr, hu⟩ | ⟨hc, hr, hu⟩
  · exact absurd (hc.symm.trans hcd) (by decide)
  · exact absurd (hc.symm.trans hcd) (by decide)
  · exact ⟨hr, hu⟩
theorem zx_course_1 (l : Launch) (hl9 : l.stackTraces = false) (D : va_G) (cy : Nat → ClassId) (base x : Nat) (r : Nat → Nat) (n : Nat) (B A : mB) (a1 a2 a3 a4 : Int32) (hcd : (cd_course B a1 a2 a3) = 1) : vx_Met l yL_does wsL_does ({ frames := 8, cells := 6, slots := 70, locals := 136 }) (zPc D cy base (lH D cy base x r n) [.ref x, .int 1, .int a1, .int a2, .int a3, .int a4] (B, A)) (zQi base (lH D cy base x r n) (fun (r0 : Int32) (u0 : lU) => r0 = (-30) ∧ u0 = (B, A))) (zXC base (lH D cy base x r n) (fun (_ : String) (_ : lU) => False)) 6 70 (fun q => base ≤ q) := by
  refine vx_imp (zd_course l hl9 D cy base x r n B A a1 a2 a3 a4) (fun r9 u9 h => ?_)
  rcases h with ⟨hc, hr, hu⟩ | ⟨hc, hr, hu⟩ | ⟨hc, hr, hu⟩ | ⟨hc, hr, hu⟩
  · exact absurd (hc.symm.trans hcd) (by decide)
  · exact ⟨hr, hu⟩
  · exact absurd (hc.symm.trans hcd) (by decide)
  · exact absurd (hc.symm.trans hcd) (by decide)
theorem zx_course_2 (l : Launch) (hl9 : l.stackTraces = false) (D : va_G) (cy : Nat → ClassId) (base x : Nat) (r : Nat → Nat) (n : Nat) (B A : mB) (a1 a2 a3 a4 : Int32) (hcd : (cd_course B a1 a2 a3) = 2) : vx_Met l yL_does wsL_does ({ frames := 8, cells := 6, slots := 70, locals := 136 }) (zPc D cy base (lH D cy base x r n) [.ref x, .int 1, .int a1, .int a2, .int a3, .int a4] (B, A)) (zQi base (lH D cy base x r n) (fun (r0 : Int32) (u0 : lU) => r0 = (-20) ∧ u0 = (B, A))) (zXC base (lH D cy base x r n) (fun (_ : String) (_ : lU) => False)) 6 70 (fun q => base ≤ q) := by
  refine vx_imp (zd_course l hl9 D cy base x r n B A a1 a2 a3 a4) (fun r9 u9 h => ?_)
  rcases h with ⟨hc, hr, hu⟩ | ⟨hc, hr, hu⟩ | ⟨hc, hr, hu⟩ | ⟨hc, hr, hu⟩
  · exact absurd (hc.symm.trans hcd) (by decide)
  · exact absurd (hc.symm.trans hcd) (by decide)
  · exact ⟨hr, hu⟩
  · exact absurd (hc.symm.trans hcd) (by decide)
theorem zx_course_3 (l : Launch) (hl9 : l.stackTraces = false) (D : va_G) (cy : Nat → ClassId) (base x : Nat) (r : Nat → Nat) (n : Nat) (B A : mB) (a1 a2 a3 a4 : Int32) (hcd : (cd_course B a1 a2 a3) = 3) : vx_Met l yL_does wsL_does ({ frames := 8, cells := 6, slots := 70, locals := 136 }) (zPc D cy base (lH D cy base x r n) [.ref x, .int 1, .int a1, .int a2, .int a3, .int a4] (B, A)) (zQi base (lH D cy base x r n) (fun (r0 : Int32) (u0 : lU) => r0 = (-10) ∧ u0 = (B, A))) (zXC base (lH D cy base x r n) (fun (_ : String) (_ : lU) => False)) 6 70 (fun q => base ≤ q) := by
  refine vx_imp (zd_course l hl9 D cy base x r n B A a1 a2 a3 a4) (fun r9 u9 h => ?_)
  rcases h with ⟨hc, hr, hu⟩ | ⟨hc, hr, hu⟩ | ⟨hc, hr, hu⟩ | ⟨hc, hr, hu⟩
  · exact absurd (hc.symm.trans hcd) (by decide)
  · exact absurd (hc.symm.trans hcd) (by decide)
  · exact absurd (hc.symm.trans hcd) (by decide)
  · exact ⟨hr, hu⟩
theorem zx_offence_1 (l : Launch) (hl9 : l.stackTraces = false) (D : va_G) (cy : Nat → ClassId) (base x : Nat) (r : Nat → Nat) (n : Nat) (B A : mB) (a1 a2 a3 a4 : Int32) (hcd : (cd_offence B a1 a2) = 1) : vx_Met l yL_does wsL_does ({ frames := 8, cells := 6, slots := 70, locals := 137 }) (zPc D cy base (lH D cy base x r n) [.ref x, .int 2, .int a1, .int a2, .int a3, .int a4] (B, A)) (zQi base (lH D cy base x r n) (fun (r0 : Int32) (u0 : lU) => r0 = (-30) ∧ u0 = (B, A))) (zXC base (lH D cy base x r n) (fun (_ : String) (_ : lU) => False)) 6 70 (fun q => base ≤ q) := by
  refine vx_imp (zd_offence l hl9 D cy base x r n B A a1 a2 a3 a4) (fun r9 u9 h => ?_)
  rcases h with ⟨hc, hr, hu⟩ | ⟨hc, hr, hu⟩ | ⟨hc, hr, hu⟩ | ⟨hc, hr, hu⟩
  · exact absurd (hc.symm.trans hcd) (by decide)
  · exact ⟨hr, hu⟩
  · exact absurd (hc.symm.trans hcd) (by decide)
  · exact absurd (hc.symm.trans hcd) (by decide)
theorem zx_offence_2 (l : Launch) (hl9 : l.stackTraces = false) (D : va_G) (cy : Nat → ClassId) (base x : Nat) (r : Nat → Nat) (n : Nat) (B A : mB) (a1 a2 a3 a4 : Int32) (hcd : (cd_offence B a1 a2) = 2) : vx_Met l yL_does wsL_does ({ frames := 8, cells := 6, slots := 70, locals := 137 }) (zPc D cy base (lH D cy base x r n) [.ref x, .int 2, .int a1, .int a2, .int a3, .int a4] (B, A)) (zQi base (lH D cy base x r n) (fun (r0 : Int32) (u0 : lU) => r0 = (-20) ∧ u0 = (B, A))) (zXC base (lH D cy base x r n) (fun (_ : String) (_ : lU) => False)) 6 70 (fun q => base ≤ q) := by
  refine vx_imp (zd_offence l hl9 D cy base x r n B A a1 a2 a3 a4) (fun r9 u9 h => ?_)
  rcases h with ⟨hc, hr, hu⟩ | ⟨hc, hr, hu⟩ | ⟨hc, hr, hu⟩ | ⟨hc, hr, hu⟩
  · exact absurd (hc.symm.trans hcd) (by decide)
  · exact absurd (hc.symm.trans hcd) (by decide)
  · exact ⟨hr, hu⟩
  · exact absurd (hc.symm.trans hcd) (by decide)
theorem zx_offence_3 (l : Launch) (hl9 : l.stackTraces = false) (D : va_G) (cy : Nat → ClassId) (base x : Nat) (r : Nat → Nat) (n : Nat) (B A : mB) (a1 a2 a3 a4 : Int32) (hcd : (cd_offence B a1 a2) = 3) : vx_Met l yL_does wsL_does ({ frames := 8, cells := 6, slots := 70, locals := 137 }) (zPc D cy base (lH D cy base x r n) [.ref x, .int 2, .int a1, .int a2, .int a3, .int a4] (B, A)) (zQi base (lH D cy base x r n) (fun (r0 : Int32) (u0 : lU) => r0 = (-10) ∧ u0 = (B, A))) (zXC base (lH D cy base x r n) (fun (_ : String) (_ : lU) => False)) 6 70 (fun q => base ≤ q) := by
  refine vx_imp (zd_offence l hl9 D cy base x r n B A a1 a2 a3 a4) (fun r9 u9 h => ?_)
  rcases h with ⟨hc, hr, hu⟩ | ⟨hc, hr, hu⟩ | ⟨hc, hr, hu⟩ | ⟨hc, hr, hu⟩
  · exact absurd (hc.symm.trans hcd) (by decide)
  · exact absurd (hc.symm.trans hcd) (by decide)
  · exact absurd (hc.symm.trans hcd) (by decide)
  · exact ⟨hr, hu⟩
theorem zx_appeal_1 (l : Launch) (hl9 : l.stackTraces = false) (D : va_G) (cy : Nat → ClassId) (base x : Nat) (r : Nat → Nat) (n : Nat) (B A : mB) (a1 a2 a3 a4 : Int32) (hcd : (cd_appeal B a1 a2) = 1) : vx_Met l yL_does wsL_does ({ frames := 8, cells := 6, slots := 70, locals := 136 }) (zPc D cy base (lH D cy base x r n) [.ref x, .int 3, .int a1, .int a2, .int a3, .int a4] (B, A)) (zQi base (lH D cy base x r n) (fun (r0 : Int32) (u0 : lU) => r0 = (-30) ∧ u0 = (B, A))) (zXC base (lH D cy base x r n) (fun (_ : String) (_ : lU) => False)) 6 70 (fun q => base ≤ q) := by
  refine vx_imp (zd_appeal l hl9 D cy base x r n B A a1 a2 a3 a4) (fun r9 u9 h => ?_)
  rcases h with ⟨hc, hr, hu⟩ | ⟨hc, hr, hu⟩ | ⟨hc, hr, hu⟩
  · exact absurd (hc.symm.trans hcd) (by decide)
  · exact ⟨hr, hu⟩
  · exact absurd (hc.symm.trans hcd) (by decide)
theorem zx_appeal_2 (l : Launch) (hl9 : l.stackTraces = false) (D : va_G) (cy : Nat → ClassId) (base x : Nat) (r : Nat → Nat) (n : Nat) (B A : mB) (a1 a2 a3 a4 : Int32) (hcd : (cd_appeal B a1 a2) = 2) : vx_Met l yL_does wsL_does ({ frames := 8, cells := 6, slots := 70, locals := 136 }) (zPc D cy base (lH D cy base x r n) [.ref x, .int 3, .int a1, .int a2, .int a3, .int a4] (B, A)) (zQi base (lH D cy base x r n) (fun (r0 : Int32) (u0 : lU) => r0 = (-10) ∧ u0 = (B, A))) (zXC base (lH D cy base x r n) (fun (_ : String) (_ : lU) => False)) 6 70 (fun q => base ≤ q) := by
  refine vx_imp (zd_appeal l hl9 D cy base x r n B A a1 a2 a3 a4) (fun r9 u9 h => ?_)
  rcases h with ⟨hc, hr, hu⟩ | ⟨hc, hr, hu⟩ | ⟨hc, hr, hu⟩
  · exact absurd (hc.symm.trans hcd) (by decide)
  · exact absurd (hc.symm.trans hcd) (by decide)
  · exact ⟨hr, hu⟩
theorem zx_setTools_1 (l : Launch) (hl9 : l.stackTraces = false) (D : va_G) (cy : Nat → ClassId) (base x : Nat) (r : Nat → Nat) (n : Nat) (B A : mB) (a1 a2 a3 a4 : Int32) (hcd : (cd_setTools B a1 a2) = 1) : vx_Met l yL_does wsL_does ({ frames := 8, cells := 6, slots := 70, locals := 136 }) (zPc D cy base (lH D cy base x r n) [.ref x, .int 4, .int a1, .int a2, .int a3, .int a4] (B, A)) (zQi base (lH D cy base x r n) (fun (r0 : Int32) (u0 : lU) => r0 = (-30) ∧ u0 = (B, A))) (zXC base (lH D cy base x r n) (fun (_ : String) (_ : lU) => False)) 6 70 (fun q => base ≤ q) := by
  refine vx_imp (zd_setTools l hl9 D cy base x r n B A a1 a2 a3 a4) (fun r9 u9 h => ?_)
  rcases h with ⟨hc, hr, hu⟩ | ⟨hc, hr, hu⟩ | ⟨hc, hr, hu⟩ | ⟨hc, hr, hu⟩
  · exact absurd (hc.symm.trans hcd) (by decide)
  · exact ⟨hr, hu⟩
  · exact absurd (hc.symm.trans hcd) (by decide)
  · exact absurd (hc.symm.trans hcd) (by decide)
theorem zx_setTools_2 (l : Launch) (hl9 : l.stackTraces = false) (D : va_G) (cy : Nat → ClassId) (base x : Nat) (r : Nat → Nat) (n : Nat) (B A : mB) (a1 a2 a3 a4 : Int32) (hcd : (cd_setTools B a1 a2) = 2) : vx_Met l yL_does wsL_does ({ frames := 8, cells := 6, slots := 70, locals := 136 }) (zPc D cy base (lH D cy base x r n) [.ref x, .int 4, .int a1, .int a2, .int a3, .int a4] (B, A)) (zQi base (lH D cy base x r n) (fun (r0 : Int32) (u0 : lU) => r0 = (-20) ∧ u0 = (B, A))) (zXC base (lH D cy base x r n) (fun (_ : String) (_ : lU) => False)) 6 70 (fun q => base ≤ q) := by
  refine vx_imp (zd_setTools l hl9 D cy base x r n B A a1 a2 a3 a4) (fun r9 u9 h => ?_)
  rcases h with ⟨hc, hr, hu⟩ | ⟨hc, hr, hu⟩ | ⟨hc, hr, hu⟩ | ⟨hc, hr, hu⟩
  · exact absurd (hc.symm.trans hcd) (by decide)
  · exact absurd (hc.symm.trans hcd) (by decide)
  · exact ⟨hr, hu⟩
  · exact absurd (hc.symm.trans hcd) (by decide)
theorem zx_setTools_3 (l : Launch) (hl9 : l.stackTraces = false) (D : va_G) (cy : Nat → ClassId) (base x : Nat) (r : Nat → Nat) (n : Nat) (B A : mB) (a1 a2 a3 a4 : Int32) (hcd : (cd_setTools B a1 a2) = 3) : vx_Met l yL_does wsL_does ({ frames := 8, cells := 6, slots := 70, locals := 136 }) (zPc D cy base (lH D cy base x r n) [.ref x, .int 4, .int a1, .int a2, .int a3, .int a4] (B, A)) (zQi base (lH D cy base x r n) (fun (r0 : Int32) (u0 : lU) => r0 = (-10) ∧ u0 = (B, A))) (zXC base (lH D cy base x r n) (fun (_ : String) (_ : lU) => False)) 6 70 (fun q => base ≤ q) := by
  refine vx_imp (zd_setTools l hl9 D cy base x r n B A a1 a2 a3 a4) (fun r9 u9 h => ?_)
  rcases h with ⟨hc, hr, hu⟩ | ⟨hc, hr, hu⟩ | ⟨hc, hr, hu⟩ | ⟨hc, hr, hu⟩
  · exact absurd (hc.symm.trans hcd) (by decide)
  · exact absurd (hc.symm.trans hcd) (by decide)
  · exact absurd (hc.symm.trans hcd) (by decide)
  · exact ⟨hr, hu⟩
theorem zx_addOrder_1 (l : Launch) (hl9 : l.stackTraces = false) (D : va_G) (cy : Nat → ClassId) (base x : Nat) (r : Nat → Nat) (n : Nat) (B A : mB) (a1 a2 a3 a4 : Int32) (hcd : (cd_addOrder B a1 a2 a3 a4) = 1) : vx_Met l yL_does wsL_does ({ frames := 8, cells := 6, slots := 70, locals := 138 }) (zPc D cy base (lH D cy base x r n) [.ref x, .int 5, .int a1, .int a2, .int a3, .int a4] (B, A)) (zQi base (lH D cy base x r n) (fun (r0 : Int32) (u0 : lU) => r0 = (-30) ∧ u0 = (B, A))) (zXC base (lH D cy base x r n) (fun (_ : String) (_ : lU) => False)) 6 70 (fun q => base ≤ q) := by
  refine vx_imp (zd_addOrder l hl9 D cy base x r n B A a1 a2 a3 a4) (fun r9 u9 h => ?_)
  rcases h with ⟨hc, hr, hu⟩ | ⟨hc, hr, hu⟩ | ⟨hc, hr, hu⟩ | ⟨hc, hr, hu⟩
  · exact absurd (hc.symm.trans hcd) (by decide)
  · exact ⟨hr, hu⟩
  · exact absurd (hc.symm.trans hcd) (by decide)
  · exact absurd (hc.symm.trans hcd) (by decide)
theorem zx_addOrder_2 (l : Launch) (hl9 : l.stackTraces = false) (D : va_G) (cy : Nat → ClassId) (base x : Nat) (r : Nat → Nat) (n : Nat) (B A : mB) (a1 a2 a3 a4 : Int32) (hcd : (cd_addOrder B a1 a2 a3 a4) = 2) : vx_Met l yL_does wsL_does ({ frames := 8, cells := 6, slots := 70, locals := 138 }) (zPc D cy base (lH D cy base x r n) [.ref x, .int 5, .int a1, .int a2, .int a3, .int a4] (B, A)) (zQi base (lH D cy base x r n) (fun (r0 : Int32) (u0 : lU) => r0 = (-20) ∧ u0 = (B, A))) (zXC base (lH D cy base x r n) (fun (_ : String) (_ : lU) => False)) 6 70 (fun q => base ≤ q) := by
  refine vx_imp (zd_addOrder l hl9 D cy base x r n B A a1 a2 a3 a4) (fun r9 u9 h => ?_)
  rcases h with ⟨hc, hr, hu⟩ | ⟨hc, hr, hu⟩ | ⟨hc, hr, hu⟩ | ⟨hc, hr, hu⟩
  · exact absurd (hc.symm.trans hcd) (by decide)
  · exact absurd (hc.symm.trans hcd) (by decide)
  · exact ⟨hr, hu⟩
  · exact absurd (hc.symm.trans hcd) (by decide)
theorem zx_addOrder_3 (l : Launch) (hl9 : l.stackTraces = false) (D : va_G) (cy : Nat → ClassId) (base x : Nat) (r : Nat → Nat) (n : Nat) (B A : mB) (a1 a2 a3 a4 : Int32) (hcd : (cd_addOrder B a1 a2 a3 a4) = 3) : vx_Met l yL_does wsL_does ({ frames := 8, cells := 6, slots := 70, locals := 138 }) (zPc D cy base (lH D cy base x r n) [.ref x, .int 5, .int a1, .int a2, .int a3, .int a4] (B, A)) (zQi base (lH D cy base x r n) (fun (r0 : Int32) (u0 : lU) => r0 = (-10) ∧ u0 = (B, A))) (zXC base (lH D cy base x r n) (fun (_ : String) (_ : lU) => False)) 6 70 (fun q => base ≤ q) := by
  refine vx_imp (zd_addOrder l hl9 D cy base x r n B A a1 a2 a3 a4) (fun r9 u9 h => ?_)
  rcases h with ⟨hc, hr, hu⟩ | ⟨hc, hr, hu⟩ | ⟨hc, hr, hu⟩ | ⟨hc, hr, hu⟩
  · exact absurd (hc.symm.trans hcd) (by decide)
  · exact absurd (hc.symm.trans hcd) (by decide)
  · exact absurd (hc.symm.trans hcd) (by decide)
  · exact ⟨hr, hu⟩
theorem zx_assign_1 (l : Launch) (hl9 : l.stackTraces = false) (D : va_G) (cy : Nat → ClassId) (base x : Nat) (r : Nat → Nat) (n : Nat) (B A : mB) (a1 a2 a3 a4 : Int32) (hcd : (cd_assign B a1 a2) = 1) : vx_Met l yL_does wsL_does ({ frames := 8, cells := 6, slots := 70, locals := 136 }) (zPc D cy base (lH D cy base x r n) [.ref x, .int 6, .int a1, .int a2, .int a3, .int a4] (B, A)) (zQi base (lH D cy base x r n) (fun (r0 : Int32) (u0 : lU) => r0 = (-30) ∧ u0 = (B, A))) (zXC base (lH D cy base x r n) (fun (_ : String) (_ : lU) => False)) 6 70 (fun q => base ≤ q) := by
  refine vx_imp (zd_assign l hl9 D cy base x r n B A a1 a2 a3 a4) (fun r9 u9 h => ?_)
  rcases h with ⟨hc, hr, hu⟩ | ⟨hc, hr, hu⟩ | ⟨hc, hr, hu⟩
  · exact absurd (hc.symm.trans hcd) (by decide)
  · exact ⟨hr, hu⟩
  · exact absurd (hc.symm.trans hcd) (by decide)
theorem zx_assign_2 (l : Launch) (hl9 : l.stackTraces = false) (D : va_G) (cy : Nat → ClassId) (base x : Nat) (r : Nat → Nat) (n : Nat) (B A : mB) (a1 a2 a3 a4 : Int32) (hcd : (cd_assign B a1 a2) = 2) : vx_Met l yL_does wsL_does ({ frames := 8, cells := 6, slots := 70, locals := 136 }) (zPc D cy base (lH D cy base x r n) [.ref x, .int 6, .int a1, .int a2, .int a3, .int a4] (B, A)) (zQi base (lH D cy base x r n) (fun (r0 : Int32) (u0 : lU) => r0 = (-10) ∧ u0 = (B, A))) (zXC base (lH D cy base x r n) (fun (_ : String) (_ : lU) => False)) 6 70 (fun q => base ≤ q) := by
  refine vx_imp (zd_assign l hl9 D cy base x r n B A a1 a2 a3 a4) (fun r9 u9 h => ?_)
  rcases h with ⟨hc, hr, hu⟩ | ⟨hc, hr, hu⟩ | ⟨hc, hr, hu⟩
  · exact absurd (hc.symm.trans hcd) (by decide)
  · exact absurd (hc.symm.trans hcd) (by decide)
  · exact ⟨hr, hu⟩
theorem zx_takeOff_1 (l : Launch) (hl9 : l.stackTraces = false) (D : va_G) (cy : Nat → ClassId) (base x : Nat) (r : Nat → Nat) (n : Nat) (B A : mB) (a1 a2 a3 a4 : Int32) (hcd : (cd_takeOff B a1) = 1) : vx_Met l yL_does wsL_does ({ frames := 8, cells := 6, slots := 70, locals := 135 }) (zPc D cy base (lH D cy base x r n) [.ref x, .int 7, .int a1, .int a2, .int a3, .int a4] (B, A)) (zQi base (lH D cy base x r n) (fun (r0 : Int32) (u0 : lU) => r0 = (-30) ∧ u0 = (B, A))) (zXC base (lH D cy base x r n) (fun (_ : String) (_ : lU) => False)) 6 70 (fun q => base ≤ q) := by
  refine vx_imp (zd_takeOff l hl9 D cy base x r n B A a1 a2 a3 a4) (fun r9 u9 h => ?_)
  rcases h with ⟨hc, hr, hu⟩ | ⟨hc, hr, hu⟩ | ⟨hc, hr, hu⟩
  · exact absurd (hc.symm.trans hcd) (by decide)
  · exact ⟨hr, hu⟩
  · exact absurd (hc.symm.trans hcd) (by decide)
theorem zx_takeOff_2 (l : Launch) (hl9 : l.stackTraces = false) (D : va_G) (cy : Nat → ClassId) (base x : Nat) (r : Nat → Nat) (n : Nat) (B A : mB) (a1 a2 a3 a4 : Int32) (hcd : (cd_takeOff B a1) = 2) : vx_Met l yL_does wsL_does ({ frames := 8, cells := 6, slots := 70, locals := 135 }) (zPc D cy base (lH D cy base x r n) [.ref x, .int 7, .int a1, .int a2, .int a3, .int a4] (B, A)) (zQi base (lH D cy base x r n) (fun (r0 : Int32) (u0 : lU) => r0 = (-10) ∧ u0 = (B, A))) (zXC base (lH D cy base x r n) (fun (_ : String) (_ : lU) => False)) 6 70 (fun q => base ≤ q) := by
  refine vx_imp (zd_takeOff l hl9 D cy base x r n B A a1 a2 a3 a4) (fun r9 u9 h => ?_)
  rcases h with ⟨hc, hr, hu⟩ | ⟨hc, hr, hu⟩ | ⟨hc, hr, hu⟩
  · exact absurd (hc.symm.trans hcd) (by decide)
  · exact absurd (hc.symm.trans hcd) (by decide)
  · exact ⟨hr, hu⟩
theorem zx_buy_1 (l : Launch) (hl9 : l.stackTraces = false) (D : va_G) (cy : Nat → ClassId) (base x : Nat) (r : Nat → Nat) (n : Nat) (B A : mB) (a1 a2 a3 a4 : Int32) (hcd : (cd_buy B a1 a2) = 1) : vx_Met l yL_does wsL_does ({ frames := 8, cells := 6, slots := 70, locals := 136 }) (zPc D cy base (lH D cy base x r n) [.ref x, .int 8, .int a1, .int a2, .int a3, .int a4] (B, A)) (zQi base (lH D cy base x r n) (fun (r0 : Int32) (u0 : lU) => r0 = (-30) ∧ u0 = (B, A))) (zXC base (lH D cy base x r n) (fun (_ : String) (_ : lU) => False)) 6 70 (fun q => base ≤ q) := by
  refine vx_imp (zd_buy l hl9 D cy base x r n B A a1 a2 a3 a4) (fun r9 u9 h => ?_)
  rcases h with ⟨hc, hr, hu⟩ | ⟨hc, hr, hu⟩ | ⟨hc, hr, hu⟩ | ⟨hc, hr, hu⟩
  · exact absurd (hc.symm.trans hcd) (by decide)
  · exact ⟨hr, hu⟩
  · exact absurd (hc.symm.trans hcd) (by decide)
  · exact absurd (hc.symm.trans hcd) (by decide)
theorem zx_buy_2 (l : Launch) (hl9 : l.stackTraces = false) (D : va_G) (cy : Nat → ClassId) (base x : Nat) (r : Nat → Nat) (n : Nat) (B A : mB) (a1 a2 a3 a4 : Int32) (hcd : (cd_buy B a1 a2) = 2) : vx_Met l yL_does wsL_does ({ frames := 8, cells := 6, slots := 70, locals := 136 }) (zPc D cy base (lH D cy base x r n) [.ref x, .int 8, .int a1, .int a2, .int a3, .int a4] (B, A)) (zQi base (lH D cy base x r n) (fun (r0 : Int32) (u0 : lU) => r0 = (-20) ∧ u0 = (B, A))) (zXC base (lH D cy base x r n) (fun (_ : String) (_ : lU) => False)) 6 70 (fun q => base ≤ q) := by
  refine vx_imp (zd_buy l hl9 D cy base x r n B A a1 a2 a3 a4) (fun r9 u9 h => ?_)
  rcases h with ⟨hc, hr, hu⟩ | ⟨hc, hr, hu⟩ | ⟨hc, hr, hu⟩ | ⟨hc, hr, hu⟩
  · exact absurd (hc.symm.trans hcd) (by decide)
  · exact absurd (hc.symm.trans hcd) (by decide)
  · exact ⟨hr, hu⟩
  · exact absurd (hc.symm.trans hcd) (by decide)
theorem zx_buy_3 (l : Launch) (hl9 : l.stackTraces = false) (D : va_G) (cy : Nat → ClassId) (base x : Nat) (r : Nat → Nat) (n : Nat) (B A : mB) (a1 a2 a3 a4 : Int32) (hcd : (cd_buy B a1 a2) = 3) : vx_Met l yL_does wsL_does ({ frames := 8, cells := 6, slots := 70, locals := 136 }) (zPc D cy base (lH D cy base x r n) [.ref x, .int 8, .int a1, .int a2, .int a3, .int a4] (B, A)) (zQi base (lH D cy base x r n) (fun (r0 : Int32) (u0 : lU) => r0 = (-10) ∧ u0 = (B, A))) (zXC base (lH D cy base x r n) (fun (_ : String) (_ : lU) => False)) 6 70 (fun q => base ≤ q) := by
  refine vx_imp (zd_buy l hl9 D cy base x r n B A a1 a2 a3 a4) (fun r9 u9 h => ?_)
  rcases h with ⟨hc, hr, hu⟩ | ⟨hc, hr, hu⟩ | ⟨hc, hr, hu⟩ | ⟨hc, hr, hu⟩
  · exact absurd (hc.symm.trans hcd) (by decide)
  · exact absurd (hc.symm.trans hcd) (by decide)
  · exact absurd (hc.symm.trans hcd) (by decide)
  · exact ⟨hr, hu⟩
theorem zx_pass_1 (l : Launch) (hl9 : l.stackTraces = false) (D : va_G) (cy : Nat → ClassId) (base x : Nat) (r : Nat → Nat) (n : Nat) (B A : mB) (a1 a2 a3 a4 : Int32) (hcd : (cd_pass B a1) = 1) : vx_Met l yL_does wsL_does ({ frames := 8, cells := 1, slots := 6, locals := 135 }) (zPc D cy base (lH D cy base x r n) [.ref x, .int 9, .int a1, .int a2, .int a3, .int a4] (B, A)) (zQi base (lH D cy base x r n) (fun (r0 : Int32) (u0 : lU) => r0 = (-20) ∧ u0 = (B, A))) (zXC base (lH D cy base x r n) (fun (_ : String) (_ : lU) => False)) 1 6 (fun q => base ≤ q) := by
  refine vx_imp (zd_pass l hl9 D cy base x r n B A a1 a2 a3 a4) (fun r9 u9 h => ?_)
  rcases h with ⟨hc, hr, hu⟩ | ⟨hc, hr, hu⟩
  · exact absurd (hc.symm.trans hcd) (by decide)
  · exact ⟨hr, hu⟩
