def rPower (s : rS) (R : Nat) (x y : Int32) : Int32 × rS := if x < 0 ∨ nI R ≤ x ∨ s.2 6 x.toNatClampNeg = y then (0, s) else (1, rFresh (s.1, up2 s.2 6 x.toNatClampNeg y) x.toNatClampNeg)
theorem rd83 {E : xE} {M0 M : xM} {m nx R : Nat} {s : rS} {x y : Int32} {Q : Option Value → xM → Nat → Prop} (hb : xb E ≤ m) (h : rR M0 M m s) (hR : R ≤ 6) (hs : s.1 9 = nI R) (hy : y = 0 ∨ y = 1)
    (hq : ∀ M', rR M0 M' m (rPower s R x y).2 → Q (some (.int (rPower s R x y).1)) M' nx) : XC E 83 [.ref m, .int x, .int y] M nx Q := by
  refine rc83 hb h hR hs hy ⟨fun z => ?_, fun j M' hj hx hd h' => ?_⟩
  · rw [rPower, if_pos z] at hq
    exact hq M h
  · subst hx
    have z : ¬ (nI j < 0 ∨ nI R ≤ nI j ∨ s.2 6 (nI j).toNatClampNeg = y) := by
      rw [nI_clamp (by omega)]
      rintro (z | z | z)
      · exact nI_pos (by omega) z
      · exact nI_ge hj (by omega) z
      · exact hd z
    rw [rPower, if_neg z, nI_clamp (by omega)] at hq
    exact hq M' h'
def rIsNode (s : rS) (x : Int32) : Bool := decide (¬ x < 0) && decide (¬ 64 ≤ x) && decide (¬ s.2 4 x.toNatClampNeg = 0)
set_option maxRecDepth 100000 in
set_option maxHeartbeats 4000000 in
theorem rc103 {E : xE} {M : xM} {m nx : Nat} {s : rS} {x : Int32} {Q : Option Value → xM → Nat → Prop} (h : rRep M m s) (hq : Q (some (.int (if rIsNode s x then 1 else 0))) M nx) : XC E 103 [.ref m, .int x] M nx Q := by
  refine XC.run 60 [] ?_
  by_cases c : x < 0
  · simp only [n103, t103, ↓xh, ↓xst, ↓xrunE, ↓rG, rL, rSt, updA, List.elem_nil, List.elem_cons, Nat.reduceBEq, Bool.false_eq_true, if_false, if_true, true_and, and_true, true_or, or_true, not_false_eq_true, Nat.reduceAdd, Nat.reduceSub, Nat.reduceLeDiff, Nat.reduceEqDiff, Nat.reduceLT, ↓reduceIte, List.length_cons, List.length_nil, List.set_cons_zero, List.set_cons_succ, Nat.le_refl, Nat.zero_le, Nat.zero_sub, Nat.sub_zero, List.nil_append, List.cons_append, Option.toList_some, Option.toList_none, eq_self, lT c]
    simpa [rIsNode, c] using hq
  · by_cases c2 : (64 : Int32) ≤ x
    · simp only [n103, t103, ↓xh, ↓xst, ↓xrunE, ↓rG, rL, rSt, updA, List.elem_nil, List.elem_cons, Nat.reduceBEq, Bool.false_eq_true, if_false, if_true, true_and, and_true, true_or, or_true, not_false_eq_true, Nat.reduceAdd, Nat.reduceSub, Nat.reduceLeDiff, Nat.reduceEqDiff, Nat.reduceLT, ↓reduceIte, List.length_cons, List.length_nil, List.set_cons_zero, List.set_cons_succ, Nat.le_refl, Nat.zero_le, Nat.zero_sub, Nat.sub_zero, List.nil_append, List.cons_append, Option.toList_some, Option.toList_none, eq_self, lF c, eT c2]
      simpa [rIsNode, c2] using hq
    · obtain ⟨j, hj, rfl⟩ := nIv (X := 64) c c2 (by omega)
      by_cases d : s.2 4 j = 0
      · simp only [n103, t103, ↓xh, ↓xst, ↓xrunE, ↓rG, rL, rSt, updA, List.elem_nil, List.elem_cons, Nat.reduceBEq, Bool.false_eq_true, if_false, if_true, true_and, and_true, true_or, or_true, not_false_eq_true, Nat.reduceAdd, Nat.reduceSub, Nat.reduceLeDiff, Nat.reduceEqDiff, Nat.reduceLT, ↓reduceIte, List.length_cons, List.length_nil, List.set_cons_zero, List.set_cons_succ, Nat.le_refl, Nat.zero_le, Nat.zero_sub, Nat.sub_zero, List.nil_append, List.cons_append, Option.toList_some, Option.toList_none, eq_self, lF c, eF c2, ↓rO1 h, ↓rB h, nIx hj, d]
        simpa [rIsNode, nI_clamp (show j < 2 ^ 31 by omega), d] using hq
      · simp only [n103, t103, ↓xh, ↓xst, ↓xrunE, ↓rG, rL, rSt, updA, List.elem_nil, List.elem_cons, Nat.reduceBEq, Bool.false_eq_true, if_false, if_true, true_and, and_true, true_or, or_true, not_false_eq_true, Nat.reduceAdd, Nat.reduceSub, Nat.reduceLeDiff, Nat.reduceEqDiff, Nat.reduceLT, ↓reduceIte, List.length_cons, List.length_nil, List.set_cons_zero, List.set_cons_succ, Nat.le_refl, Nat.zero_le, Nat.zero_sub, Nat.sub_zero, List.nil_append, List.cons_append, Option.toList_some, Option.toList_none, eq_self, lF c, eF c2, ↓rO1 h, ↓rB h, nIx hj, d]
        simpa [rIsNode, nI_clamp (show j < 2 ^ 31 by omega), c, c2, d] using hq
def rDrop (s : rS) (S : Nat) (x : Int32) : Int32 × rS := if x < 0 ∨ nI S ≤ x ∨ ¬ s.2 17 x.toNatClampNeg = 0 then (0, s) else (1, (s.1, up2 s.2 17 x.toNatClampNeg 1))
set_option maxRecDepth 100000 in
set_option maxHeartbeats 4000000 in
theorem rc86 {E : xE} {M0 M : xM} {m nx S : Nat} {s : rS} {x : Int32} {Q : Option Value → xM → Nat → Prop} (hb : xb E ≤ m) (h : rR M0 M m s) (hS : S ≤ 16) (hs : s.1 22 = nI S)
    (hq : ∀ M', rR M0 M' m (rDrop s S x).2 → Q (some (.int (rDrop s S x).1)) M' nx) : XC E 86 [.ref m, .int x] M nx Q := by
  refine XC.run 60 [30] ?_
  by_cases c : x < 0
  · simp only [n86, t86, ↓xh, ↓xst, ↓xrunE, ↓rG, rL, rSt, updA, List.elem_nil, List.elem_cons, Nat.reduceBEq, Bool.false_eq_true, if_false, if_true, true_and, and_true, true_or, or_true, not_false_eq_true, Nat.reduceAdd, Nat.reduceSub, Nat.reduceLeDiff, Nat.reduceEqDiff, Nat.reduceLT, ↓reduceIte, List.length_cons, List.length_nil, List.set_cons_zero, List.set_cons_succ, Nat.le_refl, Nat.zero_le, Nat.zero_sub, Nat.sub_zero, List.nil_append, List.cons_append, Option.toList_some, Option.toList_none, eq_self, lT c]
    rw [rDrop, if_pos (Or.inl c)] at hq
    exact hq M h
  · by_cases c2 : nI S ≤ x
    · simp only [n86, t86, ↓xh, ↓xst, ↓xrunE, ↓rG, rL, rSt, updA, List.elem_nil, List.elem_cons, Nat.reduceBEq, Bool.false_eq_true, if_false, if_true, true_and, and_true, true_or, or_true, not_false_eq_true, Nat.reduceAdd, Nat.reduceSub, Nat.reduceLeDiff, Nat.reduceEqDiff, Nat.reduceLT, ↓reduceIte, List.length_cons, List.length_nil, List.set_cons_zero, List.set_cons_succ, Nat.le_refl, Nat.zero_le, Nat.zero_sub, Nat.sub_zero, List.nil_append, List.cons_append, Option.toList_some, Option.toList_none, eq_self, lF c, ↓rO1 h.1, hs, eT c2]
      rw [rDrop, if_pos (Or.inr (Or.inl c2))] at hq
      exact hq M h
    · obtain ⟨j, hj, rfl⟩ := nIv (X := S) c c2 (by omega)
      have ej := nI_clamp (show j < 2 ^ 31 by omega)
      by_cases d : s.2 17 j = 0
      · simp only [n86, t86, ↓xh, ↓xst, ↓xrunE, ↓rG, rL, rSt, updA, List.elem_nil, List.elem_cons, Nat.reduceBEq, Bool.false_eq_true, if_false, if_true, true_and, and_true, true_or, or_true, not_false_eq_true, Nat.reduceAdd, Nat.reduceSub, Nat.reduceLeDiff, Nat.reduceEqDiff, Nat.reduceLT, ↓reduceIte, List.length_cons, List.length_nil, List.set_cons_zero, List.set_cons_succ, Nat.le_refl, Nat.zero_le, Nat.zero_sub, Nat.sub_zero, List.nil_append, List.cons_append, Option.toList_some, Option.toList_none, eq_self, lF c, ↓rO1 h.1, ↓rB h.1, hs, eF c2, nIx (show j < 16 by omega), d, xn2b, xbj hb]
        rw [rDrop, if_neg (by rw [ej]; simp [c, c2, d]), ej] at hq
        refine XZ.abs (h.arr 17 _ _ (by decide) (by decide)) (fun M1 h1 => ?_)
        refine XZ.runH 60 [] ?_
        simp only [n86, t86, ↓xh, ↓xst, ↓xrunE, ↓rG, rL, rSt, updA, List.elem_nil, List.elem_cons, Nat.reduceBEq, Bool.false_eq_true, if_false, if_true, true_and, and_true, true_or, or_true, not_false_eq_true, Nat.reduceAdd, Nat.reduceSub, Nat.reduceLeDiff, Nat.reduceEqDiff, Nat.reduceLT, ↓reduceIte, List.length_cons, List.length_nil, List.set_cons_zero, List.set_cons_succ, Nat.le_refl, Nat.zero_le, Nat.zero_sub, Nat.sub_zero, List.nil_append, List.cons_append, Option.toList_some, Option.toList_none, eq_self]
        exact hq M1 h1
      · simp only [n86, t86, ↓xh, ↓xst, ↓xrunE, ↓rG, rL, rSt, updA, List.elem_nil, List.elem_cons, Nat.reduceBEq, Bool.false_eq_true, if_false, if_true, true_and, and_true, true_or, or_true, not_false_eq_true, Nat.reduceAdd, Nat.reduceSub, Nat.reduceLeDiff, Nat.reduceEqDiff, Nat.reduceLT, ↓reduceIte, List.length_cons, List.length_nil, List.set_cons_zero, List.set_cons_succ, Nat.le_refl, Nat.zero_le, Nat.zero_sub, Nat.sub_zero, List.nil_append, List.cons_append, Option.toList_some, Option.toList_none, eq_self, lF c, ↓rO1 h.1, ↓rB h.1, hs, eF c2, nIx (show j < 16 by omega), d]
        rw [rDrop, if_pos (by rw [ej]; simp [d])] at hq
        exact hq M h
theorem iv5 {k : Int32} (h : ¬ 5 < k) : ¬ nI 6 ≤ k := by
  intro z
  refine h ?_
  rw [Int32.le_iff_toInt_le] at z
  rw [Int32.lt_iff_toInt_lt]
  have e1 : (nI 6).toInt = 6 := by decide
  have e2 : (5 : Int32).toInt = 5 := by decide
  omega
def rLedger (s : rS) (S : Nat) (x k : Int32) : Int32 := if x < 0 ∨ nI S ≤ x ∨ k < 0 ∨ 5 < k then 0 else if k = 4 then s.2 19 x.toNatClampNeg else if k = 5 then s.2 20 x.toNatClampNeg else s.2 18 (4 * x.toNatClampNeg + k.toNatClampNeg)
set_option maxRecDepth 100000 in
set_option maxHeartbeats 4000000 in
theorem rc97 {E : xE} {M : xM} {m nx S : Nat} {s : rS} {x k : Int32} {Q : Option Value → xM → Nat → Prop} (h : rRep M m s) (hS : S ≤ 16) (hs : s.1 22 = nI S) (hq : Q (some (.int (rLedger s S x k))) M nx) : XC E 97 [.ref m, .int x, .int k] M nx Q := by
  refine XC.run 60 [] ?_
  by_cases c : x < 0
  · simp only [n97, t97, ↓xh, ↓xst, ↓xrunE, ↓rG, rL, rSt, updA, List.elem_nil, List.elem_cons, Nat.reduceBEq, Bool.false_eq_true, if_false, if_true, true_and, and_true, true_or, or_true, not_false_eq_true, Nat.reduceAdd, Nat.reduceSub, Nat.reduceLeDiff, Nat.reduceEqDiff, Nat.reduceLT, ↓reduceIte, List.length_cons, List.length_nil, List.set_cons_zero, List.set_cons_succ, Nat.le_refl, Nat.zero_le, Nat.zero_sub, Nat.sub_zero, List.nil_append, List.cons_append, Option.toList_some, Option.toList_none, eq_self, lT c]
    simpa [rLedger, c] using hq
  · by_cases c2 : nI S ≤ x
    · simp only [n97, t97, ↓xh, ↓xst, ↓xrunE, ↓rG, rL, rSt, updA, List.elem_nil, List.elem_cons, Nat.reduceBEq, Bool.false_eq_true, if_false, if_true, true_and, and_true, true_or, or_true, not_false_eq_true, Nat.reduceAdd, Nat.reduceSub, Nat.reduceLeDiff, Nat.reduceEqDiff, Nat.reduceLT, ↓reduceIte, List.length_cons, List.length_nil, List.set_cons_zero, List.set_cons_succ, Nat.le_refl, Nat.zero_le, Nat.zero_sub, Nat.sub_zero, List.nil_append, List.cons_append, Option.toList_some, Option.toList_none, eq_self, lF c, ↓rO1 h, hs, eT c2]
      simpa [rLedger, c2] using hq
    · by_cases d : k < 0
      · simp only [n97, t97, ↓xh, ↓xst, ↓xrunE, ↓rG, rL, rSt, updA, List.elem_nil, List.elem_cons, Nat.reduceBEq, Bool.false_eq_true, if_false, if_true, true_and, and_true, true_or, or_true, not_false_eq_true, Nat.reduceAdd, Nat.reduceSub, Nat.reduceLeDiff, Nat.reduceEqDiff, Nat.reduceLT, ↓reduceIte, List.length_cons, List.length_nil, List.set_cons_zero, List.set_cons_succ, Nat.le_refl, Nat.zero_le, Nat.zero_sub, Nat.sub_zero, List.nil_append, List.cons_append, Option.toList_some, Option.toList_none, eq_self, lF c, ↓rO1 h, hs, eF c2, lT d]
        simpa [rLedger, d] using hq
      · by_cases d2 : 5 < k
        · simp only [n97, t97, ↓xh, ↓xst, ↓xrunE, ↓rG, rL, rSt, updA, List.elem_nil, List.elem_cons, Nat.reduceBEq, Bool.false_eq_true, if_false, if_true, true_and, and_true, true_or, or_true, not_false_eq_true, Nat.reduceAdd, Nat.reduceSub, Nat.reduceLeDiff, Nat.reduceEqDiff, Nat.reduceLT, ↓reduceIte, List.length_cons, List.length_nil, List.set_cons_zero, List.set_cons_succ, Nat.le_refl, Nat.zero_le, Nat.zero_sub, Nat.sub_zero, List.nil_append, List.cons_append, Option.toList_some, Option.toList_none, eq_self, lF c, ↓rO1 h, hs, eF c2, lF d, lT d2]
          simpa [rLedger, d2] using hq
        · obtain ⟨j, hj, rfl⟩ := nIv (X := S) c c2 (by omega)
          obtain ⟨i, hi, rfl⟩ := nIv (x := k) (X := 6) d (iv5 d2) (by omega)
          rw [rLedger, if_neg (by simp [c, c2, d, d2]), nI_clamp (show j < 2 ^ 31 by omega), nI_clamp (show i < 2 ^ 31 by omega)] at hq
          by_cases e4 : nI i = 4
          · simp only [n97, t97, ↓xh, ↓xst, ↓xrunE, ↓rG, rL, rSt, updA, List.elem_nil, List.elem_cons, Nat.reduceBEq, Bool.false_eq_true, if_false, if_true, true_and, and_true, true_or, or_true, not_false_eq_true, Nat.reduceAdd, Nat.reduceSub, Nat.reduceLeDiff, Nat.reduceEqDiff, Nat.reduceLT, ↓reduceIte, List.length_cons, List.length_nil, List.set_cons_zero, List.set_cons_succ, Nat.le_refl, Nat.zero_le, Nat.zero_sub, Nat.sub_zero, List.nil_append, List.cons_append, Option.toList_some, Option.toList_none, eq_self, lF c, ↓rO1 h, ↓rB h, hs, eF c2, lF d, lF d2, nIx (show j < 16 by omega), e4]
            rw [if_pos e4] at hq
            exact hq
          · rw [if_neg e4] at hq
            by_cases e5 : nI i = 5
            · simp only [n97, t97, ↓xh, ↓xst, ↓xrunE, ↓rG, rL, rSt, updA, List.elem_nil, List.elem_cons, Nat.reduceBEq, Bool.false_eq_true, if_false, if_true, true_and, and_true, true_or, or_true, not_false_eq_true, Nat.reduceAdd, Nat.reduceSub, Nat.reduceLeDiff, Nat.reduceEqDiff, Nat.reduceLT, ↓reduceIte, List.length_cons, List.length_nil, List.set_cons_zero, List.set_cons_succ, Nat.le_refl, Nat.zero_le, Nat.zero_sub, Nat.sub_zero, List.nil_append, List.cons_append, Option.toList_some, Option.toList_none, eq_self, lF c, ↓rO1 h, ↓rB h, hs, eF c2, lF d, lF d2, nIx (show j < 16 by omega), e4, e5]
              rw [if_pos e5] at hq
              exact hq
            · rw [if_neg e5] at hq
              have i4 : ¬ i = 4 := fun z => e4 (by rw [z]; decide)
              have i5 : ¬ i = 5 := fun z => e5 (by rw [z]; decide)
              simp only [n97, t97, ↓xh, ↓xst, ↓xrunE, ↓rG, rL, rSt, updA, List.elem_nil, List.elem_cons, Nat.reduceBEq, Bool.false_eq_true, if_false, if_true, true_and, and_true, true_or, or_true, not_false_eq_true, Nat.reduceAdd, Nat.reduceSub, Nat.reduceLeDiff, Nat.reduceEqDiff, Nat.reduceLT, ↓reduceIte, List.length_cons, List.length_nil, List.set_cons_zero, List.set_cons_succ, Nat.le_refl, Nat.zero_le, Nat.zero_sub, Nat.sub_zero, List.nil_append, List.cons_append, Option.toList_some, Option.toList_none, eq_self, lF c, ↓rO1 h, ↓rB h, hs, eF c2, lF d, lF d2, nIm4, nI_add, nIx (show 4 * j + i < 64 by omega), e4, e5]
              exact hq
/-- node: which identity is free -/
def rIdn (w k : Nat) : Nat := if 6 < w + k then w + k - 6 else w + k
def rNdF (s : rS) (n w : Nat) : Nat → Nat → Option Nat
  | 0, _ => none
  | l + 1, k => if s.2 4 (8 * n + rIdn w k) = 0 then some (rIdn w k) else rNdF s n w l (k + 1)
theorem rIdn_le {w k : Nat} (h1 : 1 ≤ w) (h2 : w ≤ 6) (h3 : k < 6) : 1 ≤ rIdn w k ∧ rIdn w k ≤ 6 := by
  unfold rIdn
  split <;> omega
set_option maxRecDepth 100000 in
set_option maxHeartbeats 4000000 in
theorem rl84 {E : xE} {M0 M : xM} {m nx n w : Nat} {s : rS} {Q : Option Value → xM → Nat → Prop} (hb : xb E ≤ m) (h : rR M0 M m s) (hn : n < 8) (h1 : 1 ≤ w) (h2 : w ≤ 6) : ∀ l k v4, k + l = 6 →
    (∀ M', rR M0 M' m ((rNdF s n w l k).elim s (fun i => (s.1, up2 s.2 4 (8 * n + i) 1))) → Q (some (.int ((rNdF s n w l k).elim (-1) (fun i => nI (8 * n + i))))) M' nx) →
    XZ E 84 (xZ E 84 Q) 27 [some (.ref m), some (.int (nI n)), some (.int (nI w)), some (.int (nI k)), v4] [] M nx 0 0 := by
  intro l
  induction l with
  | zero =>
    intro k v4 hk hq
    obtain rfl : k = 6 := by omega
    refine XZ.runH 60 [27] ?_
    simp only [n84, t84, ↓xh, ↓xst, ↓xrunE, ↓rG, rL, rSt, updA, List.elem_nil, List.elem_cons, Nat.reduceBEq, Bool.false_eq_true, if_false, if_true, true_and, and_true, true_or, or_true, not_false_eq_true, Nat.reduceAdd, Nat.reduceSub, Nat.reduceLeDiff, Nat.reduceEqDiff, Nat.reduceLT, ↓reduceIte, List.length_cons, List.length_nil, List.set_cons_zero, List.set_cons_succ, Nat.le_refl, Nat.zero_le, Nat.zero_sub, Nat.sub_zero, List.nil_append, List.cons_append, Option.toList_some, Option.toList_none, eq_self, show (6 : Int32) ≤ nI 6 by decide]
    exact hq M h
  | succ l ih =>
    intro k v4 hk hq
    have g : ¬ (6 : Int32) ≤ nI k := nI_ge (show k < 6 by omega) (by decide)
    obtain ⟨i1, i2⟩ := rIdn_le h1 h2 (show k < 6 by omega)
    have step : ∀ i, i = rIdn w k → XZ E 84 (xZ E 84 Q) 55 [some (.ref m), some (.int (nI n)), some (.int (nI w)), some (.int (nI k)), some (.int (nI i))] [] M nx 0 0 := by
      intro i hi
      have hi6 : i ≤ 6 := by omega
      refine XZ.runH 60 [27, 83] ?_
      by_cases d : s.2 4 (8 * n + i) = 0
      · simp only [n84, t84, ↓xh, ↓xst, ↓xrunE, ↓rG, rL, rSt, updA, List.elem_nil, List.elem_cons, Nat.reduceBEq, Bool.false_eq_true, if_false, if_true, true_and, and_true, true_or, or_true, not_false_eq_true, Nat.reduceAdd, Nat.reduceSub, Nat.reduceLeDiff, Nat.reduceEqDiff, Nat.reduceLT, ↓reduceIte, List.length_cons, List.length_nil, List.set_cons_zero, List.set_cons_succ, Nat.le_refl, Nat.zero_le, Nat.zero_sub, Nat.sub_zero, List.nil_append, List.cons_append, Option.toList_some, Option.toList_none, eq_self, ↓rO1 h.1, ↓rB h.1, nIm8, nI_add, nIx (show 8 * n + i < 64 by omega), d, xn2b, xbj hb]
        refine XZ.abs (h.arr 4 _ _ (by decide) (by decide)) (fun M1 h1 => ?_)
        refine XZ.runH 60 [] ?_
        simp only [n84, t84, ↓xh, ↓xst, ↓xrunE, ↓rG, rL, rSt, updA, List.elem_nil, List.elem_cons, Nat.reduceBEq, Bool.false_eq_true, if_false, if_true, true_and, and_true, true_or, or_true, not_false_eq_true, Nat.reduceAdd, Nat.reduceSub, Nat.reduceLeDiff, Nat.reduceEqDiff, Nat.reduceLT, ↓reduceIte, List.length_cons, List.length_nil, List.set_cons_zero, List.set_cons_succ, Nat.le_refl, Nat.zero_le, Nat.zero_sub, Nat.sub_zero, List.nil_append, List.cons_append, Option.toList_some, Option.toList_none, eq_self, nIm8, nI_add]
        rw [rNdF, ← hi, if_pos d] at hq
        exact hq M1 h1
      · simp only [n84, t84, ↓xh, ↓xst, ↓xrunE, ↓rG, rL, rSt, updA, List.elem_nil, List.elem_cons, Nat.reduceBEq, Bool.false_eq_true, if_false, if_true, true_and, and_true, true_or, or_true, not_false_eq_true, Nat.reduceAdd, Nat.reduceSub, Nat.reduceLeDiff, Nat.reduceEqDiff, Nat.reduceLT, ↓reduceIte, List.length_cons, List.length_nil, List.set_cons_zero, List.set_cons_succ, Nat.le_refl, Nat.zero_le, Nat.zero_sub, Nat.sub_zero, List.nil_append, List.cons_append, Option.toList_some, Option.toList_none, eq_self, ↓rO1 h.1, ↓rB h.1, nIm8, nI_add, nIx (show 8 * n + i < 64 by omega), d, nI_1]
        rw [rNdF, ← hi, if_neg d] at hq
        exact ih (k + 1) _ (by omega) hq
    refine XZ.runH 60 [55] ?_
    by_cases c : 6 < w + k
    · simp only [n84, t84, ↓xh, ↓xst, ↓xrunE, ↓rG, rL, rSt, updA, List.elem_nil, List.elem_cons, Nat.reduceBEq, Bool.false_eq_true, if_false, if_true, true_and, and_true, true_or, or_true, not_false_eq_true, Nat.reduceAdd, Nat.reduceSub, Nat.reduceLeDiff, Nat.reduceEqDiff, Nat.reduceLT, ↓reduceIte, List.length_cons, List.length_nil, List.set_cons_zero, List.set_cons_succ, Nat.le_refl, Nat.zero_le, Nat.zero_sub, Nat.sub_zero, List.nil_append, List.cons_append, Option.toList_some, Option.toList_none, eq_self, g, nI_add, lT (show (6 : Int32) < nI (w + k) from nI_lt c (by omega))]
      have e : nI (w + k) - 6 = nI (w + k - 6) := by
        rw [show (6 : Int32) = nI 6 by decide]
        rw [show w + k = (w + k - 6) + 6 by omega, ← nI_add, Nat.add_sub_cancel]
        exact Int32.add_sub_cancel _ _
      rw [e]
      exact step _ (by unfold rIdn; rw [if_pos c])
    · simp only [n84, t84, ↓xh, ↓xst, ↓xrunE, ↓rG, rL, rSt, updA, List.elem_nil, List.elem_cons, Nat.reduceBEq, Bool.false_eq_true, if_false, if_true, true_and, and_true, true_or, or_true, not_false_eq_true, Nat.reduceAdd, Nat.reduceSub, Nat.reduceLeDiff, Nat.reduceEqDiff, Nat.reduceLT, ↓reduceIte, List.length_cons, List.length_nil, List.set_cons_zero, List.set_cons_succ, Nat.le_refl, Nat.zero_le, Nat.zero_sub, Nat.sub_zero, List.nil_append, List.cons_append, Option.toList_some, Option.toList_none, eq_self, g, nI_add, lF (show ¬ (6 : Int32) < nI (w + k) from nI_nlt (Nat.not_lt.mp c) (by decide))]
      exact step _ (by unfold rIdn; rw [if_neg c])
theorem iv16 {y : Int32} (h1 : ¬ y < 1) (h2 : ¬ 6 < y) : ∃ w, 1 ≤ w ∧ w ≤ 6 ∧ y = nI w := by
  have e1 : (1 : Int32).toInt = 1 := by decide
  have e2 : (6 : Int32).toInt = 6 := by decide
  rw [Int32.lt_iff_toInt_lt, e1] at h1
  rw [Int32.lt_iff_toInt_lt, e2] at h2
  refine ⟨y.toInt.toNat, by omega, by omega, ?_⟩
  apply Int32.toInt_inj.mp
  rw [nI_toInt (by omega)]
  omega
def rNode (s : rS) (N : Nat) (x y : Int32) : Int32 × rS := if x < 0 ∨ nI N ≤ x ∨ y < 1 ∨ 6 < y then (-1, s) else ((rNdF s x.toNatClampNeg y.toNatClampNeg 6 0).elim (-1) (fun i => nI (8 * x.toNatClampNeg + i)), (rNdF s x.toNatClampNeg y.toNatClampNeg 6 0).elim s (fun i => (s.1, up2 s.2 4 (8 * x.toNatClampNeg + i) 1)))
set_option maxRecDepth 100000 in
set_option maxHeartbeats 4000000 in
theorem rc84 {E : xE} {M0 M : xM} {m nx N : Nat} {s : rS} {x y : Int32} {Q : Option Value → xM → Nat → Prop} (hb : xb E ≤ m) (h : rR M0 M m s) (hN : N ≤ 8) (hs : s.1 7 = nI N)
    (hq : ∀ M', rR M0 M' m (rNode s N x y).2 → Q (some (.int (rNode s N x y).1)) M' nx) : XC E 84 [.ref m, .int x, .int y] M nx Q := by
  refine XC.run 60 [27] ?_
  by_cases c : x < 0
  · simp only [n84, t84, ↓xh, ↓xst, ↓xrunE, ↓rG, rL, rSt, updA, List.elem_nil, List.elem_cons, Nat.reduceBEq, Bool.false_eq_true, if_false, if_true, true_and, and_true, true_or, or_true, not_false_eq_true, Nat.reduceAdd, Nat.reduceSub, Nat.reduceLeDiff, Nat.reduceEqDiff, Nat.reduceLT, ↓reduceIte, List.length_cons, List.length_nil, List.set_cons_zero, List.set_cons_succ, Nat.le_refl, Nat.zero_le, Nat.zero_sub, Nat.sub_zero, List.nil_append, List.cons_append, Option.toList_some, Option.toList_none, eq_self, lT c]
    rw [rNode, if_pos (Or.inl c)] at hq
    exact hq M h
  · by_cases c2 : nI N ≤ x
    · simp only [n84, t84, ↓xh, ↓xst, ↓xrunE, ↓rG, rL, rSt, updA, List.elem_nil, List.elem_cons, Nat.reduceBEq, Bool.false_eq_true, if_false, if_true, true_and, and_true, true_or, or_true, not_false_eq_true, Nat.reduceAdd, Nat.reduceSub, Nat.reduceLeDiff, Nat.reduceEqDiff, Nat.reduceLT, ↓reduceIte, List.length_cons, List.length_nil, List.set_cons_zero, List.set_cons_succ, Nat.le_refl, Nat.zero_le, Nat.zero_sub, Nat.sub_zero, List.nil_append, List.cons_append, Option.toList_some, Option.toList_none, eq_self, lF c, ↓rO1 h.1, hs, eT c2]
      rw [rNode, if_pos (Or.inr (Or.inl c2))] at hq
      exact hq M h
    · by_cases d : y < 1
      · simp only [n84, t84, ↓xh, ↓xst, ↓xrunE, ↓rG, rL, rSt, updA, List.elem_nil, List.elem_cons, Nat.reduceBEq, Bool.false_eq_true, if_false, if_true, true_and, and_true, true_or, or_true, not_false_eq_true, Nat.reduceAdd, Nat.reduceSub, Nat.reduceLeDiff, Nat.reduceEqDiff, Nat.reduceLT, ↓reduceIte, List.length_cons, List.length_nil, List.set_cons_zero, List.set_cons_succ, Nat.le_refl, Nat.zero_le, Nat.zero_sub, Nat.sub_zero, List.nil_append, List.cons_append, Option.toList_some, Option.toList_none, eq_self, lF c, ↓rO1 h.1, hs, eF c2, lT d]
        rw [rNode, if_pos (Or.inr (Or.inr (Or.inl d)))] at hq
        exact hq M h
      · by_cases d2 : 6 < y
        · simp only [n84, t84, ↓xh, ↓xst, ↓xrunE, ↓rG, rL, rSt, updA, List.elem_nil, List.elem_cons, Nat.reduceBEq, Bool.false_eq_true, if_false, if_true, true_and, and_true, true_or, or_true, not_false_eq_true, Nat.reduceAdd, Nat.reduceSub, Nat.reduceLeDiff, Nat.reduceEqDiff, Nat.reduceLT, ↓reduceIte, List.length_cons, List.length_nil, List.set_cons_zero, List.set_cons_succ, Nat.le_refl, Nat.zero_le, Nat.zero_sub, Nat.sub_zero, List.nil_append, List.cons_append, Option.toList_some, Option.toList_none, eq_self, lF c, ↓rO1 h.1, hs, eF c2, lF d, lT d2]
          rw [rNode, if_pos (Or.inr (Or.inr (Or.inr d2)))] at hq
          exact hq M h
        · obtain ⟨n, hn, rfl⟩ := nIv (X := N) c c2 (by omega)
          obtain ⟨w, h1, h2, rfl⟩ := iv16 d d2
          simp only [n84, t84, ↓xh, ↓xst, ↓xrunE, ↓rG, rL, rSt, updA, List.elem_nil, List.elem_cons, Nat.reduceBEq, Bool.false_eq_true, if_false, if_true, true_and, and_true, true_or, or_true, not_false_eq_true, Nat.reduceAdd, Nat.reduceSub, Nat.reduceLeDiff, Nat.reduceEqDiff, Nat.reduceLT, ↓reduceIte, List.length_cons, List.length_nil, List.set_cons_zero, List.set_cons_succ, Nat.le_refl, Nat.zero_le, Nat.zero_sub, Nat.sub_zero, List.nil_append, List.cons_append, Option.toList_some, Option.toList_none, eq_self, lF c, ↓rO1 h.1, hs, eF c2, lF d, lF d2]
          rw [rNode, if_neg (by simp [c, c2, d, d2]), nI_clamp (show n < 2 ^ 31 by omega), nI_clamp (show w < 2 ^ 31 by omega)] at hq
          exact rl84 hb h (by omega) h1 h2 6 0 _ rfl hq
