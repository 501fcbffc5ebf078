/-- power -/
def rFresh (s : rS) (r : Nat) : rS := rPt (rFrF s r) s (8 * r) 8
set_option maxRecDepth 100000 in
set_option maxHeartbeats 4000000 in
theorem rc83 {E : xE} {M0 M : xM} {m nx R : Nat} {s : rS} {x y : Int32} {Q : Option Value → xM → Nat → Prop} (hb : xb E ≤ m) (h : rR M0 M m s) (hR : R ≤ 6) (hs : s.1 9 = nI R) (hy : y = 0 ∨ y = 1)
    (hq : (x < 0 ∨ nI R ≤ x ∨ s.2 6 x.toNatClampNeg = y → Q (some (.int 0)) M nx) ∧ (∀ j M', j < R → x = nI j → ¬ s.2 6 j = y → rR M0 M' m (rFresh (s.1, up2 s.2 6 j y) j) → Q (some (.int 1)) M' nx)) : XC E 83 [.ref m, .int x, .int y] M nx Q := by
  refine XC.run 60 [31] ?_
  by_cases c : x < 0
  · simp only [n83, t83, ↓xh, ↓xst, ↓xrunE, ↓rG, rL, rSt, updA, List.elem_nil, List.elem_cons, Nat.reduceBEq, Bool.false_eq_true, if_false, if_true, true_and, and_true, true_or, or_true, not_false_eq_true, Nat.reduceAdd, Nat.reduceSub, Nat.reduceLeDiff, Nat.reduceEqDiff, Nat.reduceLT, ↓reduceIte, List.length_cons, List.length_nil, List.set_cons_zero, List.set_cons_succ, Nat.le_refl, Nat.zero_le, Nat.zero_sub, Nat.sub_zero, List.nil_append, List.cons_append, Option.toList_some, Option.toList_none, eq_self, lT c]
    exact hq.1 (Or.inl c)
  · by_cases c2 : nI R ≤ x
    · simp only [n83, t83, ↓xh, ↓xst, ↓xrunE, ↓rG, rL, rSt, updA, List.elem_nil, List.elem_cons, Nat.reduceBEq, Bool.false_eq_true, if_false, if_true, true_and, and_true, true_or, or_true, not_false_eq_true, Nat.reduceAdd, Nat.reduceSub, Nat.reduceLeDiff, Nat.reduceEqDiff, Nat.reduceLT, ↓reduceIte, List.length_cons, List.length_nil, List.set_cons_zero, List.set_cons_succ, Nat.le_refl, Nat.zero_le, Nat.zero_sub, Nat.sub_zero, List.nil_append, List.cons_append, Option.toList_some, Option.toList_none, eq_self, lF c, ↓rO1 h.1, hs, eT c2]
      exact hq.1 (Or.inr (Or.inl c2))
    · obtain ⟨j, hj, rfl⟩ := nIv (X := R) c c2 (by omega)
      by_cases d : s.2 6 j = y
      · simp only [n83, t83, ↓xh, ↓xst, ↓xrunE, ↓rG, rL, rSt, updA, List.elem_nil, List.elem_cons, Nat.reduceBEq, Bool.false_eq_true, if_false, if_true, true_and, and_true, true_or, or_true, not_false_eq_true, Nat.reduceAdd, Nat.reduceSub, Nat.reduceLeDiff, Nat.reduceEqDiff, Nat.reduceLT, ↓reduceIte, List.length_cons, List.length_nil, List.set_cons_zero, List.set_cons_succ, Nat.le_refl, Nat.zero_le, Nat.zero_sub, Nat.sub_zero, List.nil_append, List.cons_append, Option.toList_some, Option.toList_none, eq_self, lF c, ↓rO1 h.1, ↓rB h.1, hs, eF c2, nIx (show j < 6 by omega), d]
        exact hq.1 (Or.inr (Or.inr (by rw [nI_clamp (by omega)]; exact d)))
      · simp only [n83, t83, ↓xh, ↓xst, ↓xrunE, ↓rG, rL, rSt, updA, List.elem_nil, List.elem_cons, Nat.reduceBEq, Bool.false_eq_true, if_false, if_true, true_and, and_true, true_or, or_true, not_false_eq_true, Nat.reduceAdd, Nat.reduceSub, Nat.reduceLeDiff, Nat.reduceEqDiff, Nat.reduceLT, ↓reduceIte, List.length_cons, List.length_nil, List.set_cons_zero, List.set_cons_succ, Nat.le_refl, Nat.zero_le, Nat.zero_sub, Nat.sub_zero, List.nil_append, List.cons_append, Option.toList_some, Option.toList_none, eq_self, lF c, ↓rO1 h.1, ↓rB h.1, hs, eF c2, nIx (show j < 6 by omega), d, xbj hb]
        have ey : xnar 2 y = y := by rcases hy with rfl | rfl <;> rfl
        rw [ey]
        refine XZ.abs (h.arr 6 _ _ (by decide) (by decide)) (fun M1 h1 => ?_)
        refine XZ.runH 60 [] ?_
        simp only [n83, n102, t83, ↓xh, ↓xst, ↓xrunE, ↓rG, rL, rSt, updA, List.elem_nil, List.elem_cons, Nat.reduceBEq, Bool.false_eq_true, if_false, if_true, true_and, and_true, true_or, or_true, not_false_eq_true, Nat.reduceAdd, Nat.reduceSub, Nat.reduceLeDiff, Nat.reduceEqDiff, Nat.reduceLT, ↓reduceIte, List.length_cons, List.length_nil, List.set_cons_zero, List.set_cons_succ, Nat.le_refl, Nat.zero_le, Nat.zero_sub, Nat.sub_zero, List.nil_append, List.cons_append, Option.toList_some, Option.toList_none, eq_self, ↓rO1 h1.1]
        refine rc102 hb (by omega) h1 (fun M2 h2 => ?_)
        refine XZ.runH 60 [] ?_
        simp only [n83, t83, ↓xh, ↓xst, ↓xrunE, ↓rG, rL, rSt, updA, List.elem_nil, List.elem_cons, Nat.reduceBEq, Bool.false_eq_true, if_false, if_true, true_and, and_true, true_or, or_true, not_false_eq_true, Nat.reduceAdd, Nat.reduceSub, Nat.reduceLeDiff, Nat.reduceEqDiff, Nat.reduceLT, ↓reduceIte, List.length_cons, List.length_nil, List.set_cons_zero, List.set_cons_succ, Nat.le_refl, Nat.zero_le, Nat.zero_sub, Nat.sub_zero, List.nil_append, List.cons_append, Option.toList_some, Option.toList_none, eq_self]
        exact hq.2 j M2 hj rfl d h2
